section
-- ===== PART A: goes FIRST, ahead of the names: the tables' words, and 'selects' of the private methods out of them =====
/-- a private method of a class that the tables say can be made, by its rows of tables_1 -/
def lw_okq (q : MethodName × Nat) : Prop := (q.1.cls ≠ "java/lang/invoke/MethodHandle" ∧ q.1.cls ≠ "java/lang/invoke/VarHandle") ∧ Cond.instantiable q.1.cls q.2 ∈ tables_1 ∧ Cond.privateMethod q.1 ∈ tables_1 ∧ Cond.instanceMethod q.1 ∈ tables_1
theorem lw_p0 : lw_okq (⟨"LeastInBounds", "isVariable", "(I)Z"⟩, 9) := ⟨⟨by decide +kernel, by decide +kernel⟩, List.mem_of_getElem? (i := 15) (by decide +kernel), List.mem_of_getElem? (i := 266) (by decide +kernel), List.mem_of_getElem? (i := 267) (by decide +kernel)⟩
theorem lw_p1 : lw_okq (⟨"LeastInBounds", "isLine", "(I)Z"⟩, 9) := ⟨⟨by decide +kernel, by decide +kernel⟩, List.mem_of_getElem? (i := 15) (by decide +kernel), List.mem_of_getElem? (i := 304) (by decide +kernel), List.mem_of_getElem? (i := 305) (by decide +kernel)⟩
theorem lw_p2 : lw_okq (⟨"LeastInBounds", "isSet", "(I)Z"⟩, 9) := ⟨⟨by decide +kernel, by decide +kernel⟩, List.mem_of_getElem? (i := 15) (by decide +kernel), List.mem_of_getElem? (i := 360) (by decide +kernel), List.mem_of_getElem? (i := 361) (by decide +kernel)⟩
theorem lw_p3 : lw_okq (⟨"LeastInBounds", "find", "(ZI)I"⟩, 9) := ⟨⟨by decide +kernel, by decide +kernel⟩, List.mem_of_getElem? (i := 15) (by decide +kernel), List.mem_of_getElem? (i := 368) (by decide +kernel), List.mem_of_getElem? (i := 369) (by decide +kernel)⟩
theorem lw_p4 : lw_okq (⟨"LeastInBounds$Solver", "meet", "(I)Z"⟩, 13) := ⟨⟨by decide +kernel, by decide +kernel⟩, List.mem_of_getElem? (i := 74) (by decide +kernel), List.mem_of_getElem? (i := 376) (by decide +kernel), List.mem_of_getElem? (i := 377) (by decide +kernel)⟩
theorem lw_p5 : lw_okq (⟨"LeastInBounds$Solver", "gather", "(I)V"⟩, 13) := ⟨⟨by decide +kernel, by decide +kernel⟩, List.mem_of_getElem? (i := 74) (by decide +kernel), List.mem_of_getElem? (i := 386) (by decide +kernel), List.mem_of_getElem? (i := 387) (by decide +kernel)⟩
theorem lw_p6 : lw_okq (⟨"LeastInBounds$Solver", "fillBowlRows", "()V"⟩, 13) := ⟨⟨by decide +kernel, by decide +kernel⟩, List.mem_of_getElem? (i := 74) (by decide +kernel), List.mem_of_getElem? (i := 390) (by decide +kernel), List.mem_of_getElem? (i := 391) (by decide +kernel)⟩
theorem lw_p7 : lw_okq (⟨"LeastInBounds$Solver", "fillLineRows", "()V"⟩, 13) := ⟨⟨by decide +kernel, by decide +kernel⟩, List.mem_of_getElem? (i := 74) (by decide +kernel), List.mem_of_getElem? (i := 396) (by decide +kernel), List.mem_of_getElem? (i := 397) (by decide +kernel)⟩
theorem lw_p8 : lw_okq (⟨"LeastInBounds$Solver", "eliminate", "()Z"⟩, 13) := ⟨⟨by decide +kernel, by decide +kernel⟩, List.mem_of_getElem? (i := 74) (by decide +kernel), List.mem_of_getElem? (i := 409) (by decide +kernel), List.mem_of_getElem? (i := 410) (by decide +kernel)⟩
theorem lw_p9 : lw_okq (⟨"LeastInBounds$Solver", "clearRow", "([J[JIJ)V"⟩, 13) := ⟨⟨by decide +kernel, by decide +kernel⟩, List.mem_of_getElem? (i := 74) (by decide +kernel), List.mem_of_getElem? (i := 413) (by decide +kernel), List.mem_of_getElem? (i := 414) (by decide +kernel)⟩
theorem lw_p10 : lw_okq (⟨"LeastInBounds$Solver", "layAt", "(I)V"⟩, 13) := ⟨⟨by decide +kernel, by decide +kernel⟩, List.mem_of_getElem? (i := 74) (by decide +kernel), List.mem_of_getElem? (i := 417) (by decide +kernel), List.mem_of_getElem? (i := 418) (by decide +kernel)⟩
theorem lw_p11 : lw_okq (⟨"LeastInBounds$Solver", "fits", "(I)Z"⟩, 13) := ⟨⟨by decide +kernel, by decide +kernel⟩, List.mem_of_getElem? (i := 74) (by decide +kernel), List.mem_of_getElem? (i := 421) (by decide +kernel), List.mem_of_getElem? (i := 422) (by decide +kernel)⟩
theorem lw_p12 : lw_okq (⟨"LeastInBounds$Solver", "claimTides", "(III)V"⟩, 13) := ⟨⟨by decide +kernel, by decide +kernel⟩, List.mem_of_getElem? (i := 74) (by decide +kernel), List.mem_of_getElem? (i := 521) (by decide +kernel), List.mem_of_getElem? (i := 522) (by decide +kernel)⟩
theorem lw_p13 : lw_okq (⟨"LeastInBounds$Solver", "limitReach", "(JJ)V"⟩, 13) := ⟨⟨by decide +kernel, by decide +kernel⟩, List.mem_of_getElem? (i := 74) (by decide +kernel), List.mem_of_getElem? (i := 534) (by decide +kernel), List.mem_of_getElem? (i := 535) (by decide +kernel)⟩
theorem lw_p14 : lw_okq (⟨"LeastInBounds", "findNear", "(ZIII)I"⟩, 9) := ⟨⟨by decide +kernel, by decide +kernel⟩, List.mem_of_getElem? (i := 15) (by decide +kernel), List.mem_of_getElem? (i := 549) (by decide +kernel), List.mem_of_getElem? (i := 550) (by decide +kernel)⟩
theorem lw_p15 : lw_okq (⟨"LeastInBounds$Certificate", "sharedBy", "(LLeastInBounds$Point;)J"⟩, 2) := ⟨⟨by decide +kernel, by decide +kernel⟩, List.mem_of_getElem? (i := 176) (by decide +kernel), List.mem_of_getElem? (i := 577) (by decide +kernel), List.mem_of_getElem? (i := 578) (by decide +kernel)⟩
def lw_privs_1 : List (MethodName × Nat) := [(⟨"LeastInBounds", "isVariable", "(I)Z"⟩, 9), (⟨"LeastInBounds", "isLine", "(I)Z"⟩, 9), (⟨"LeastInBounds", "isSet", "(I)Z"⟩, 9), (⟨"LeastInBounds", "find", "(ZI)I"⟩, 9), (⟨"LeastInBounds$Solver", "meet", "(I)Z"⟩, 13), (⟨"LeastInBounds$Solver", "gather", "(I)V"⟩, 13), (⟨"LeastInBounds$Solver", "fillBowlRows", "()V"⟩, 13), (⟨"LeastInBounds$Solver", "fillLineRows", "()V"⟩, 13), (⟨"LeastInBounds$Solver", "eliminate", "()Z"⟩, 13), (⟨"LeastInBounds$Solver", "clearRow", "([J[JIJ)V"⟩, 13), (⟨"LeastInBounds$Solver", "layAt", "(I)V"⟩, 13), (⟨"LeastInBounds$Solver", "fits", "(I)Z"⟩, 13), (⟨"LeastInBounds$Solver", "claimTides", "(III)V"⟩, 13), (⟨"LeastInBounds$Solver", "limitReach", "(JJ)V"⟩, 13), (⟨"LeastInBounds", "findNear", "(ZIII)I"⟩, 9), (⟨"LeastInBounds$Certificate", "sharedBy", "(LLeastInBounds$Point;)J"⟩, 2)]
theorem lw_r1 : ∀ q ∈ lw_privs_1, lw_okq q := List.forall_mem_cons.mpr ⟨lw_p0, List.forall_mem_cons.mpr ⟨lw_p1, List.forall_mem_cons.mpr ⟨lw_p2, List.forall_mem_cons.mpr ⟨lw_p3, List.forall_mem_cons.mpr ⟨lw_p4, List.forall_mem_cons.mpr ⟨lw_p5, List.forall_mem_cons.mpr ⟨lw_p6, List.forall_mem_cons.mpr ⟨lw_p7, List.forall_mem_cons.mpr ⟨lw_p8, List.forall_mem_cons.mpr ⟨lw_p9, List.forall_mem_cons.mpr ⟨lw_p10, List.forall_mem_cons.mpr ⟨lw_p11, List.forall_mem_cons.mpr ⟨lw_p12, List.forall_mem_cons.mpr ⟨lw_p13, List.forall_mem_cons.mpr ⟨lw_p14, List.forall_mem_cons.mpr ⟨lw_p15, fun _ h => absurd h List.not_mem_nil⟩⟩⟩⟩⟩⟩⟩⟩⟩⟩⟩⟩⟩⟩⟩⟩
theorem lw_p16 : lw_okq (⟨"LeastInBounds$Certificate", "isBalanced", "()Z"⟩, 2) := ⟨⟨by decide +kernel, by decide +kernel⟩, List.mem_of_getElem? (i := 176) (by decide +kernel), List.mem_of_getElem? (i := 618) (by decide +kernel), List.mem_of_getElem? (i := 619) (by decide +kernel)⟩
theorem lw_p17 : lw_okq (⟨"LeastInBounds$Certificate", "isWeighedRight", "()Z"⟩, 2) := ⟨⟨by decide +kernel, by decide +kernel⟩, List.mem_of_getElem? (i := 176) (by decide +kernel), List.mem_of_getElem? (i := 624) (by decide +kernel), List.mem_of_getElem? (i := 625) (by decide +kernel)⟩
theorem lw_p18 : lw_okq (⟨"LeastInBounds$Certificate", "isHeld", "()Z"⟩, 2) := ⟨⟨by decide +kernel, by decide +kernel⟩, List.mem_of_getElem? (i := 176) (by decide +kernel), List.mem_of_getElem? (i := 629) (by decide +kernel), List.mem_of_getElem? (i := 630) (by decide +kernel)⟩
theorem lw_p19 : lw_okq (⟨"LeastInBounds$Certificate", "slackOf", "(I)J"⟩, 2) := ⟨⟨by decide +kernel, by decide +kernel⟩, List.mem_of_getElem? (i := 176) (by decide +kernel), List.mem_of_getElem? (i := 633) (by decide +kernel), List.mem_of_getElem? (i := 634) (by decide +kernel)⟩
theorem lw_p20 : lw_okq (⟨"LeastInBounds$Certificate", "isWeightOnlyWhereTight", "()Z"⟩, 2) := ⟨⟨by decide +kernel, by decide +kernel⟩, List.mem_of_getElem? (i := 176) (by decide +kernel), List.mem_of_getElem? (i := 640) (by decide +kernel), List.mem_of_getElem? (i := 641) (by decide +kernel)⟩
theorem lw_p21 : lw_okq (⟨"LeastInBounds", "refusedCell", "(II)I"⟩, 9) := ⟨⟨by decide +kernel, by decide +kernel⟩, List.mem_of_getElem? (i := 15) (by decide +kernel), List.mem_of_getElem? (i := 688) (by decide +kernel), List.mem_of_getElem? (i := 689) (by decide +kernel)⟩
theorem lw_p22 : lw_okq (⟨"LeastInBoundsModel", "isVariable", "(I)Z"⟩, 33) := ⟨⟨by decide +kernel, by decide +kernel⟩, List.mem_of_getElem? (i := 727) (by decide +kernel), List.mem_of_getElem? (i := 845) (by decide +kernel), List.mem_of_getElem? (i := 846) (by decide +kernel)⟩
theorem lw_p23 : lw_okq (⟨"LeastInBoundsModel", "isLine", "(I)Z"⟩, 33) := ⟨⟨by decide +kernel, by decide +kernel⟩, List.mem_of_getElem? (i := 727) (by decide +kernel), List.mem_of_getElem? (i := 872) (by decide +kernel), List.mem_of_getElem? (i := 873) (by decide +kernel)⟩
theorem lw_p24 : lw_okq (⟨"LeastInBoundsModel", "becomes", "(II)I"⟩, 33) := ⟨⟨by decide +kernel, by decide +kernel⟩, List.mem_of_getElem? (i := 727) (by decide +kernel), List.mem_of_getElem? (i := 877) (by decide +kernel), List.mem_of_getElem? (i := 878) (by decide +kernel)⟩
theorem lw_p25 : lw_okq (⟨"LeastInBoundsModel", "bound", "(I)I"⟩, 33) := ⟨⟨by decide +kernel, by decide +kernel⟩, List.mem_of_getElem? (i := 727) (by decide +kernel), List.mem_of_getElem? (i := 894) (by decide +kernel), List.mem_of_getElem? (i := 895) (by decide +kernel)⟩
theorem lw_p26 : lw_okq (⟨"LeastInBoundsModel", "row", "(II)I"⟩, 33) := ⟨⟨by decide +kernel, by decide +kernel⟩, List.mem_of_getElem? (i := 727) (by decide +kernel), List.mem_of_getElem? (i := 898) (by decide +kernel), List.mem_of_getElem? (i := 899) (by decide +kernel)⟩
theorem lw_p27 : lw_okq (⟨"LeastInBoundsModel", "minorOf", "(I)I"⟩, 33) := ⟨⟨by decide +kernel, by decide +kernel⟩, List.mem_of_getElem? (i := 727) (by decide +kernel), List.mem_of_getElem? (i := 906) (by decide +kernel), List.mem_of_getElem? (i := 907) (by decide +kernel)⟩
theorem lw_p28 : lw_okq (⟨"LeastInBoundsModel", "determinant", "()J"⟩, 33) := ⟨⟨by decide +kernel, by decide +kernel⟩, List.mem_of_getElem? (i := 727) (by decide +kernel), List.mem_of_getElem? (i := 910) (by decide +kernel), List.mem_of_getElem? (i := 911) (by decide +kernel)⟩
theorem lw_p29 : lw_okq (⟨"LeastInBoundsModel", "proper", "()Z"⟩, 33) := ⟨⟨by decide +kernel, by decide +kernel⟩, List.mem_of_getElem? (i := 727) (by decide +kernel), List.mem_of_getElem? (i := 921) (by decide +kernel), List.mem_of_getElem? (i := 922) (by decide +kernel)⟩
theorem lw_p30 : lw_okq (⟨"LeastInBoundsModel", "isSet", "(I)Z"⟩, 33) := ⟨⟨by decide +kernel, by decide +kernel⟩, List.mem_of_getElem? (i := 727) (by decide +kernel), List.mem_of_getElem? (i := 929) (by decide +kernel), List.mem_of_getElem? (i := 930) (by decide +kernel)⟩
theorem lw_p31 : lw_okq (⟨"LeastInBoundsModel", "works", "(I)I"⟩, 33) := ⟨⟨by decide +kernel, by decide +kernel⟩, List.mem_of_getElem? (i := 727) (by decide +kernel), List.mem_of_getElem? (i := 933) (by decide +kernel), List.mem_of_getElem? (i := 934) (by decide +kernel)⟩
def lw_privs_2 : List (MethodName × Nat) := [(⟨"LeastInBounds$Certificate", "isBalanced", "()Z"⟩, 2), (⟨"LeastInBounds$Certificate", "isWeighedRight", "()Z"⟩, 2), (⟨"LeastInBounds$Certificate", "isHeld", "()Z"⟩, 2), (⟨"LeastInBounds$Certificate", "slackOf", "(I)J"⟩, 2), (⟨"LeastInBounds$Certificate", "isWeightOnlyWhereTight", "()Z"⟩, 2), (⟨"LeastInBounds", "refusedCell", "(II)I"⟩, 9), (⟨"LeastInBoundsModel", "isVariable", "(I)Z"⟩, 33), (⟨"LeastInBoundsModel", "isLine", "(I)Z"⟩, 33), (⟨"LeastInBoundsModel", "becomes", "(II)I"⟩, 33), (⟨"LeastInBoundsModel", "bound", "(I)I"⟩, 33), (⟨"LeastInBoundsModel", "row", "(II)I"⟩, 33), (⟨"LeastInBoundsModel", "minorOf", "(I)I"⟩, 33), (⟨"LeastInBoundsModel", "determinant", "()J"⟩, 33), (⟨"LeastInBoundsModel", "proper", "()Z"⟩, 33), (⟨"LeastInBoundsModel", "isSet", "(I)Z"⟩, 33), (⟨"LeastInBoundsModel", "works", "(I)I"⟩, 33)]
theorem lw_r2 : ∀ q ∈ lw_privs_2, lw_okq q := List.forall_mem_cons.mpr ⟨lw_p16, List.forall_mem_cons.mpr ⟨lw_p17, List.forall_mem_cons.mpr ⟨lw_p18, List.forall_mem_cons.mpr ⟨lw_p19, List.forall_mem_cons.mpr ⟨lw_p20, List.forall_mem_cons.mpr ⟨lw_p21, List.forall_mem_cons.mpr ⟨lw_p22, List.forall_mem_cons.mpr ⟨lw_p23, List.forall_mem_cons.mpr ⟨lw_p24, List.forall_mem_cons.mpr ⟨lw_p25, List.forall_mem_cons.mpr ⟨lw_p26, List.forall_mem_cons.mpr ⟨lw_p27, List.forall_mem_cons.mpr ⟨lw_p28, List.forall_mem_cons.mpr ⟨lw_p29, List.forall_mem_cons.mpr ⟨lw_p30, List.forall_mem_cons.mpr ⟨lw_p31, fun _ h => absurd h List.not_mem_nil⟩⟩⟩⟩⟩⟩⟩⟩⟩⟩⟩⟩⟩⟩⟩⟩
theorem lw_p32 : lw_okq (⟨"LeastInBoundsModel", "finds", "(I)Z"⟩, 33) := ⟨⟨by decide +kernel, by decide +kernel⟩, List.mem_of_getElem? (i := 727) (by decide +kernel), List.mem_of_getElem? (i := 937) (by decide +kernel), List.mem_of_getElem? (i := 938) (by decide +kernel)⟩
theorem lw_p33 : lw_okq (⟨"LeastInBoundsModel", "laysSome", "(I)I"⟩, 33) := ⟨⟨by decide +kernel, by decide +kernel⟩, List.mem_of_getElem? (i := 727) (by decide +kernel), List.mem_of_getElem? (i := 941) (by decide +kernel), List.mem_of_getElem? (i := 942) (by decide +kernel)⟩
theorem lw_p34 : lw_okq (⟨"LeastInBoundsModel", "laysCells", "(I)V"⟩, 33) := ⟨⟨by decide +kernel, by decide +kernel⟩, List.mem_of_getElem? (i := 727) (by decide +kernel), List.mem_of_getElem? (i := 945) (by decide +kernel), List.mem_of_getElem? (i := 946) (by decide +kernel)⟩
theorem lw_p35 : lw_okq (⟨"LeastInBoundsModel", "tells", "([J[JIZ)V"⟩, 33) := ⟨⟨by decide +kernel, by decide +kernel⟩, List.mem_of_getElem? (i := 727) (by decide +kernel), List.mem_of_getElem? (i := 949) (by decide +kernel), List.mem_of_getElem? (i := 950) (by decide +kernel)⟩
theorem lw_p36 : lw_okq (⟨"LeastInBoundsModel", "instead", "(I)J"⟩, 33) := ⟨⟨by decide +kernel, by decide +kernel⟩, List.mem_of_getElem? (i := 727) (by decide +kernel), List.mem_of_getElem? (i := 953) (by decide +kernel), List.mem_of_getElem? (i := 954) (by decide +kernel)⟩
theorem lw_p37 : lw_okq (⟨"LeastInBoundsModel", "isRight", "(I)Z"⟩, 33) := ⟨⟨by decide +kernel, by decide +kernel⟩, List.mem_of_getElem? (i := 727) (by decide +kernel), List.mem_of_getElem? (i := 957) (by decide +kernel), List.mem_of_getElem? (i := 958) (by decide +kernel)⟩
theorem lw_p38 : lw_okq (⟨"LeastInBoundsModel", "holds", "(I)Z"⟩, 33) := ⟨⟨by decide +kernel, by decide +kernel⟩, List.mem_of_getElem? (i := 727) (by decide +kernel), List.mem_of_getElem? (i := 961) (by decide +kernel), List.mem_of_getElem? (i := 962) (by decide +kernel)⟩
theorem lw_p39 : lw_okq (⟨"LeastInBoundsModel", "slackOf", "(I)J"⟩, 33) := ⟨⟨by decide +kernel, by decide +kernel⟩, List.mem_of_getElem? (i := 727) (by decide +kernel), List.mem_of_getElem? (i := 965) (by decide +kernel), List.mem_of_getElem? (i := 966) (by decide +kernel)⟩
theorem lw_p40 : lw_okq (⟨"LeastInBoundsModel", "isOn", "(I)Z"⟩, 33) := ⟨⟨by decide +kernel, by decide +kernel⟩, List.mem_of_getElem? (i := 727) (by decide +kernel), List.mem_of_getElem? (i := 969) (by decide +kernel), List.mem_of_getElem? (i := 970) (by decide +kernel)⟩
theorem lw_p41 : lw_okq (⟨"LeastInBoundsModel", "lacks", "(IZ)I"⟩, 33) := ⟨⟨by decide +kernel, by decide +kernel⟩, List.mem_of_getElem? (i := 727) (by decide +kernel), List.mem_of_getElem? (i := 980) (by decide +kernel), List.mem_of_getElem? (i := 981) (by decide +kernel)⟩
theorem lw_p42 : lw_okq (⟨"LeastInBoundsModel", "worthOf", "()J"⟩, 33) := ⟨⟨by decide +kernel, by decide +kernel⟩, List.mem_of_getElem? (i := 727) (by decide +kernel), List.mem_of_getElem? (i := 998) (by decide +kernel), List.mem_of_getElem? (i := 999) (by decide +kernel)⟩
theorem lw_p43 : lw_okq (⟨"LeastInBoundsModel", "heldNow", "()I"⟩, 33) := ⟨⟨by decide +kernel, by decide +kernel⟩, List.mem_of_getElem? (i := 727) (by decide +kernel), List.mem_of_getElem? (i := 1014) (by decide +kernel), List.mem_of_getElem? (i := 1015) (by decide +kernel)⟩
theorem lw_p44 : lw_okq (⟨"LeastInBoundsModel", "walks", "()Z"⟩, 33) := ⟨⟨by decide +kernel, by decide +kernel⟩, List.mem_of_getElem? (i := 727) (by decide +kernel), List.mem_of_getElem? (i := 1026) (by decide +kernel), List.mem_of_getElem? (i := 1027) (by decide +kernel)⟩
theorem lw_p45 : lw_okq (⟨"LeastInBoundsModel", "all", "()I"⟩, 33) := ⟨⟨by decide +kernel, by decide +kernel⟩, List.mem_of_getElem? (i := 727) (by decide +kernel), List.mem_of_getElem? (i := 1038) (by decide +kernel), List.mem_of_getElem? (i := 1039) (by decide +kernel)⟩
theorem lw_p46 : lw_okq (⟨"LeastInBoundsModel", "findsRise", "(I)V"⟩, 33) := ⟨⟨by decide +kernel, by decide +kernel⟩, List.mem_of_getElem? (i := 727) (by decide +kernel), List.mem_of_getElem? (i := 1046) (by decide +kernel), List.mem_of_getElem? (i := 1047) (by decide +kernel)⟩
theorem lw_p47 : lw_okq (⟨"LeastInBoundsModel", "rise", "(I)I"⟩, 33) := ⟨⟨by decide +kernel, by decide +kernel⟩, List.mem_of_getElem? (i := 727) (by decide +kernel), List.mem_of_getElem? (i := 1050) (by decide +kernel), List.mem_of_getElem? (i := 1051) (by decide +kernel)⟩
def lw_privs_3 : List (MethodName × Nat) := [(⟨"LeastInBoundsModel", "finds", "(I)Z"⟩, 33), (⟨"LeastInBoundsModel", "laysSome", "(I)I"⟩, 33), (⟨"LeastInBoundsModel", "laysCells", "(I)V"⟩, 33), (⟨"LeastInBoundsModel", "tells", "([J[JIZ)V"⟩, 33), (⟨"LeastInBoundsModel", "instead", "(I)J"⟩, 33), (⟨"LeastInBoundsModel", "isRight", "(I)Z"⟩, 33), (⟨"LeastInBoundsModel", "holds", "(I)Z"⟩, 33), (⟨"LeastInBoundsModel", "slackOf", "(I)J"⟩, 33), (⟨"LeastInBoundsModel", "isOn", "(I)Z"⟩, 33), (⟨"LeastInBoundsModel", "lacks", "(IZ)I"⟩, 33), (⟨"LeastInBoundsModel", "worthOf", "()J"⟩, 33), (⟨"LeastInBoundsModel", "heldNow", "()I"⟩, 33), (⟨"LeastInBoundsModel", "walks", "()Z"⟩, 33), (⟨"LeastInBoundsModel", "all", "()I"⟩, 33), (⟨"LeastInBoundsModel", "findsRise", "(I)V"⟩, 33), (⟨"LeastInBoundsModel", "rise", "(I)I"⟩, 33)]
theorem lw_r3 : ∀ q ∈ lw_privs_3, lw_okq q := List.forall_mem_cons.mpr ⟨lw_p32, List.forall_mem_cons.mpr ⟨lw_p33, List.forall_mem_cons.mpr ⟨lw_p34, List.forall_mem_cons.mpr ⟨lw_p35, List.forall_mem_cons.mpr ⟨lw_p36, List.forall_mem_cons.mpr ⟨lw_p37, List.forall_mem_cons.mpr ⟨lw_p38, List.forall_mem_cons.mpr ⟨lw_p39, List.forall_mem_cons.mpr ⟨lw_p40, List.forall_mem_cons.mpr ⟨lw_p41, List.forall_mem_cons.mpr ⟨lw_p42, List.forall_mem_cons.mpr ⟨lw_p43, List.forall_mem_cons.mpr ⟨lw_p44, List.forall_mem_cons.mpr ⟨lw_p45, List.forall_mem_cons.mpr ⟨lw_p46, List.forall_mem_cons.mpr ⟨lw_p47, fun _ h => absurd h List.not_mem_nil⟩⟩⟩⟩⟩⟩⟩⟩⟩⟩⟩⟩⟩⟩⟩⟩
theorem lw_p48 : lw_okq (⟨"LeastInBoundsModel", "bounds", "(JJ)V"⟩, 33) := ⟨⟨by decide +kernel, by decide +kernel⟩, List.mem_of_getElem? (i := 727) (by decide +kernel), List.mem_of_getElem? (i := 1054) (by decide +kernel), List.mem_of_getElem? (i := 1055) (by decide +kernel)⟩
theorem lw_p49 : lw_okq (⟨"LeastInBoundsModel", "isNear", "([I)Z"⟩, 33) := ⟨⟨by decide +kernel, by decide +kernel⟩, List.mem_of_getElem? (i := 727) (by decide +kernel), List.mem_of_getElem? (i := 1069) (by decide +kernel), List.mem_of_getElem? (i := 1070) (by decide +kernel)⟩
theorem lw_p50 : lw_okq (⟨"LeastInBoundsModel", "becomesRow", "(III)V"⟩, 33) := ⟨⟨by decide +kernel, by decide +kernel⟩, List.mem_of_getElem? (i := 727) (by decide +kernel), List.mem_of_getElem? (i := 1084) (by decide +kernel), List.mem_of_getElem? (i := 1085) (by decide +kernel)⟩
theorem lw_p51 : lw_okq (⟨"LeastInBoundsModel", "isStill", "()Z"⟩, 33) := ⟨⟨by decide +kernel, by decide +kernel⟩, List.mem_of_getElem? (i := 727) (by decide +kernel), List.mem_of_getElem? (i := 1094) (by decide +kernel), List.mem_of_getElem? (i := 1095) (by decide +kernel)⟩
theorem lw_p52 : lw_okq (⟨"LeastInBoundsModel", "wrong", "(II)I"⟩, 33) := ⟨⟨by decide +kernel, by decide +kernel⟩, List.mem_of_getElem? (i := 727) (by decide +kernel), List.mem_of_getElem? (i := 1129) (by decide +kernel), List.mem_of_getElem? (i := 1130) (by decide +kernel)⟩
def lw_privs_4 : List (MethodName × Nat) := [(⟨"LeastInBoundsModel", "bounds", "(JJ)V"⟩, 33), (⟨"LeastInBoundsModel", "isNear", "([I)Z"⟩, 33), (⟨"LeastInBoundsModel", "becomesRow", "(III)V"⟩, 33), (⟨"LeastInBoundsModel", "isStill", "()Z"⟩, 33), (⟨"LeastInBoundsModel", "wrong", "(II)I"⟩, 33)]
theorem lw_r4 : ∀ q ∈ lw_privs_4, lw_okq q := List.forall_mem_cons.mpr ⟨lw_p48, List.forall_mem_cons.mpr ⟨lw_p49, List.forall_mem_cons.mpr ⟨lw_p50, List.forall_mem_cons.mpr ⟨lw_p51, List.forall_mem_cons.mpr ⟨lw_p52, fun _ h => absurd h List.not_mem_nil⟩⟩⟩⟩⟩
def lw_privs : List (MethodName × Nat) := lw_privs_1 ++ (lw_privs_2 ++ (lw_privs_3 ++ (lw_privs_4)))
def lw_tbl : List Cond := k2_sels lw_privs ++ tables_1
theorem lw_privs_ok : ∀ q ∈ lw_privs, lw_okq q := by
  show ∀ q ∈ lw_privs_1 ++ (lw_privs_2 ++ (lw_privs_3 ++ (lw_privs_4))), lw_okq q
  exact List.forall_mem_append.mpr ⟨lw_r1, List.forall_mem_append.mpr ⟨lw_r2, List.forall_mem_append.mpr ⟨lw_r3, lw_r4⟩⟩⟩
-- ===== end of PART A; then your names; then what follows =====
/-! THE CLAIM OUT OF ONE WALK OF THE LAW'S BODY. Your part is whole_start (and what it stands on); all else here is the same for every law, but numbers. -/
def R_law : String := "LeastInBoundsLaw"
def lw_P (b : Addr) (xs : List Int32) (args : Array Value) (s : State) : Prop := args = #[.ref b] ∧ s.IntsAt b xs ∧ xs.length ≤ 3072 ∧ (Jvm.Cond.and given_1 narrow_1).before args s = true
def lw_Q (_ : Array Value) (s : State) (o : Outcome) (t : State) : Prop := o = .returned (some (.int 1)) ∧ Framed s o t [] 600000 7302249
def lw_Z (below : List Frame) (a : Array Value) (s : State) : State → Prop := fun t => ∃ o, t.status = .running ∧ Ended t below o ∧ lw_Q a s o t
/-- the law's own end, with 1 on the stack, nothing written that was there before, its room as the claim has it -/
theorem lw_ret {p : Program} {l : Launch} {e : Env} {s : State} {m : MethodId} {below : List Frame} {meth : Method} {c : Code} {b : Nat} (hx : p.tables.exec = Jvm.exec) (hb : c.code = code) (hr : meth.sig.returnType = ret) (hlocks : meth.locks = false) {pc : Nat} {H : Heap} {ls : Array Slot} (hdg : decode code pc = .ok (.ireturn, 1)) : W p l e room_1 s m #[Value.ref b] below meth c H [] 600000 7302249 (lw_Z below #[Value.ref b] s) (F0 m pc ls [.int 1]) := by
  intro T hT X
  obtain ⟨fs, hret, hrun, hended, hW, hframe⟩ := X.leave (v := some (.int 1)) (hlocks := hlocks) (fun h => by rw [hr] at h; cases h)
  have hmeth' : T.vm.method? m = some meth := X.method'
  refine ⟨T.setFrames fs, ?_, .returned (some (.int 1)), hrun, hended, rfl, ⟨_, rfl⟩, hW, hframe⟩
  jvm_step X.here [X.here.top, hx, hb, hdg, hmeth', hr, ret, narrow_b1]
  (try refine ⟨rfl, ?_⟩); (try refine ⟨rfl, ?_⟩)
  first | (intro acts; rw [hret _ acts rfl rfl rfl]) | rw [hret _ _ rfl rfl rfl]
  exact Steps.refl _
/-- what holds at the law's entry: the machine, the code, the tables' words (any of lw_tbl by 'hts w (by decide +kernel)'), the script of L ints xs at the cell b, what the Statement gives of the start (any of its parts by flat_of_before) -/
def lw_At (p : Program) (s : State) (m : MethodId) (meth : Method) (c : Code) (b L : Nat) (xs : Nat → Int32) : Prop :=
  p.tables.exec = Jvm.exec ∧ c.code = code ∧ meth.sig.returnType = ret ∧ c.maxLocals = 4 ∧ s.vm.findClass R_law = some m.cls ∧ (∀ w ∈ lw_tbl, w.before #[Value.ref b] s = true) ∧ va_X b L xs s s.heap ∧ b < s.heap.size ∧ meth.locks = false ∧ (Jvm.Cond.and given_1 narrow_1).before #[Value.ref b] s = true
end
section
/-! ===== BEGIN words of one list among another's, by their places ===== -/
theorem goodIn_r {big : List Cond} (ws : List Cond) (ps : List Nat) (hp : ws = ps.filterMap (fun i => big[i]?)) (h : ws.all goodWord = true) : GoodIn big ws := by
  intro w hw
  have h1 := List.all_eq_true.mp h w hw
  rw [hp] at hw
  obtain ⟨i, -, hi⟩ := List.mem_filterMap.mp hw
  have hm : w ∈ big := by first | exact List.mem_of_getElem? hi | exact List.getElem?_mem hi
  exact ⟨hm, good_of_word h1⟩
theorem goodIn_app {big a b : List Cond} (ha : GoodIn big a) (hb : GoodIn big b) : GoodIn big (a ++ b) := fun w h => (List.mem_append.mp h).elim (ha w) (hb w)
theorem goodIn_ca {big a b : List Cond} {c : Cond} (ha : GoodIn big (c :: a)) (hb : GoodIn big b) : GoodIn big (c :: (a ++ b)) := fun w h => (List.mem_cons.mp h).elim (fun e => ha w (List.mem_cons.mpr (Or.inl e))) (fun h => (List.mem_append.mp h).elim (fun h => ha w (List.mem_cons.mpr (Or.inr h))) (hb w))
theorem goodIn_sub {big ws : List Cond} (hm : ∀ w ∈ ws, w ∈ big) (h : ws.all goodWord = true) : GoodIn big ws := fun w hw => ⟨hm w hw, good_of_word (List.all_eq_true.mp h w hw)⟩
/-! ===== END ===== -/
def RX0 : String := "LeastInBounds$Book"
def TX0 : u_T := fun k => match k with
  | 0 => ("LeastInBounds$Book", "noted", "I", false)
  | 1 => ("LeastInBounds$Book", "sum", "J", false)
  | 2 => ("LeastInBounds$Book", "leastAbove", "J", false)
  | 3 => ("LeastInBounds$Book", "leastBelow", "J", false)
  | _ => ("LeastInBounds$Book", "lastEight", "J", false)
def tyX0 : Nat → FieldType := fun k => match k with
  | 0 => .int
  | 1 => .long
  | 2 => .long
  | 3 => .long
  | _ => .long
theorem nmX0 : ∀ a, a < 5 → ∀ b, b < 5 → a ≠ b → (TX0 a).2.1 ≠ (TX0 b).2.1 := by decide +kernel
theorem tyX0_ok : ∀ k, k < 5 → parseFieldDescriptor (TX0 k).2.2.1 = some (tyX0 k) := by decide +kernel
abbrev cX0_init : ByteArray := prog_2_method_1_code
def yX0_init : MethodName := ⟨RX0, "<init>", "()V"⟩
abbrev cX0_write : ByteArray := prog_2_method_2_code
def yX0_write : MethodName := ⟨RX0, "write", "(I)V"⟩
abbrev cX0_offer : ByteArray := prog_2_method_3_code
def yX0_offer : MethodName := ⟨RX0, "offer", "(JJ)V"⟩
abbrev cX0_lastBut : ByteArray := prog_2_method_4_code
def yX0_lastBut : MethodName := ⟨RX0, "lastBut", "(I)I"⟩
def RX1 : String := "LeastInBounds$Bowl"
def TX1 : u_T := fun k => match k with
  | 0 => ("LeastInBounds$Bowl", "variables", "I", false)
  | 1 => ("LeastInBounds$Bowl", "height", "I", false)
  | 2 => ("LeastInBounds$Bowl", "lines", "I", false)
  | 3 => ("LeastInBounds$Bowl", "bends", "[I", true)
  | 4 => ("LeastInBounds$Bowl", "pushes", "[I", true)
  | 5 => ("LeastInBounds$Bowl", "kinds", "[I", true)
  | 6 => ("LeastInBounds$Bowl", "bases", "[I", true)
  | 7 => ("LeastInBounds$Bowl", "drifts", "[I", true)
  | _ => ("LeastInBounds$Bowl", "slopes", "[I", true)
def tyX1 : Nat → FieldType := fun k => match k with
  | 0 => .int
  | 1 => .int
  | 2 => .int
  | 3 => .array .int
  | 4 => .array .int
  | 5 => .array .int
  | 6 => .array .int
  | 7 => .array .int
  | _ => .array .int
theorem nmX1 : ∀ a, a < 9 → ∀ b, b < 9 → a ≠ b → (TX1 a).2.1 ≠ (TX1 b).2.1 := by decide +kernel
theorem tyX1_ok : ∀ k, k < 9 → parseFieldDescriptor (TX1 k).2.2.1 = some (tyX1 k) := by decide +kernel
abbrev cX1_init : ByteArray := prog_3_method_1_code
def yX1_init : MethodName := ⟨RX1, "<init>", "()V"⟩
abbrev cX1_begin : ByteArray := prog_3_method_2_code
def yX1_begin : MethodName := ⟨RX1, "begin", "(I)V"⟩
abbrev cX1_makeRound : ByteArray := prog_3_method_3_code
def yX1_makeRound : MethodName := ⟨RX1, "makeRound", "()V"⟩
abbrev cX1_become : ByteArray := prog_3_method_4_code
def yX1_become : MethodName := ⟨RX1, "become", "(LLeastInBounds$Bowl;)V"⟩
abbrev cX1_bendOf : ByteArray := prog_3_method_5_code
def yX1_bendOf : MethodName := ⟨RX1, "bendOf", "(II)I"⟩
abbrev cX1_putBend : ByteArray := prog_3_method_6_code
def yX1_putBend : MethodName := ⟨RX1, "putBend", "(III)V"⟩
abbrev cX1_addLine : ByteArray := prog_3_method_7_code
def yX1_addLine : MethodName := ⟨RX1, "addLine", "(III)I"⟩
abbrev cX1_removeLine : ByteArray := prog_3_method_8_code
def yX1_removeLine : MethodName := ⟨RX1, "removeLine", "(I)V"⟩
abbrev cX1_isOn : ByteArray := prog_3_method_9_code
def yX1_isOn : MethodName := ⟨RX1, "isOn", "(I)Z"⟩
abbrev cX1_rowOf : ByteArray := prog_3_method_10_code
def yX1_rowOf : MethodName := ⟨RX1, "rowOf", "(II)I"⟩
abbrev cX1_boundOf : ByteArray := prog_3_method_11_code
def yX1_boundOf : MethodName := ⟨RX1, "boundOf", "(II)I"⟩
abbrev cX1_driftOf : ByteArray := prog_3_method_12_code
def yX1_driftOf : MethodName := ⟨RX1, "driftOf", "(I)I"⟩
abbrev cX1_linesOn : ByteArray := prog_3_method_13_code
def yX1_linesOn : MethodName := ⟨RX1, "linesOn", "()I"⟩
abbrev cX1_allLines : ByteArray := prog_3_method_14_code
def yX1_allLines : MethodName := ⟨RX1, "allLines", "()I"⟩
abbrev cX1_determinant : ByteArray := prog_3_method_15_code
def yX1_determinant : MethodName := ⟨RX1, "determinant", "(I)I"⟩
abbrev cX1_hasLeast : ByteArray := prog_3_method_16_code
def yX1_hasLeast : MethodName := ⟨RX1, "hasLeast", "()Z"⟩
abbrev cX1_squareOfPushes : ByteArray := prog_3_method_17_code
def yX1_squareOfPushes : MethodName := ⟨RX1, "squareOfPushes", "()J"⟩
abbrev cX1_leftOf : ByteArray := prog_3_method_18_code
def yX1_leftOf : MethodName := ⟨RX1, "leftOf", "(IILLeastInBounds$Point;)J"⟩
abbrev cX1_isHeldBy : ByteArray := prog_3_method_19_code
def yX1_isHeldBy : MethodName := ⟨RX1, "isHeldBy", "(IJ)Z"⟩
def RX2 : String := "LeastInBounds$Certificate"
def TX2 : u_T := fun k => match k with
  | 0 => ("LeastInBounds$Certificate", "bowl", "LLeastInBounds$Bowl;", true)
  | _ => ("LeastInBounds$Certificate", "told", "LLeastInBounds$Point;", true)
def tyX2 : Nat → FieldType := fun k => match k with
  | 0 => .object "LeastInBounds$Bowl"
  | _ => .object "LeastInBounds$Point"
theorem nmX2 : ∀ a, a < 2 → ∀ b, b < 2 → a ≠ b → (TX2 a).2.1 ≠ (TX2 b).2.1 := by decide +kernel
theorem tyX2_ok : ∀ k, k < 2 → parseFieldDescriptor (TX2 k).2.2.1 = some (tyX2 k) := by decide +kernel
abbrev cX2_init : ByteArray := prog_4_method_1_code
def yX2_init : MethodName := ⟨RX2, "<init>", "(LLeastInBounds$Bowl;)V"⟩
abbrev cX2_length : ByteArray := prog_4_method_2_code
def yX2_length : MethodName := ⟨RX2, "length", "()I"⟩
abbrev cX2_tell : ByteArray := prog_4_method_3_code
def yX2_tell : MethodName := ⟨RX2, "tell", "(LLeastInBounds$Point;LLeastInBounds$Sheets;I)V"⟩
abbrev cX2_sharedBy : ByteArray := prog_4_method_4_code
def yX2_sharedBy : MethodName := ⟨RX2, "sharedBy", "(LLeastInBounds$Point;)J"⟩
abbrev cX2_take : ByteArray := prog_4_method_5_code
def yX2_take : MethodName := ⟨RX2, "take", "(LLeastInBounds$Sheets;I)V"⟩
abbrev cX2_firstWrong : ByteArray := prog_4_method_6_code
def yX2_firstWrong : MethodName := ⟨RX2, "firstWrong", "()I"⟩
abbrev cX2_slackOf : ByteArray := prog_4_method_7_code
def yX2_slackOf : MethodName := ⟨RX2, "slackOf", "(I)J"⟩
abbrev cX2_isBalanced : ByteArray := prog_4_method_8_code
def yX2_isBalanced : MethodName := ⟨RX2, "isBalanced", "()Z"⟩
abbrev cX2_isWeighedRight : ByteArray := prog_4_method_9_code
def yX2_isWeighedRight : MethodName := ⟨RX2, "isWeighedRight", "()Z"⟩
abbrev cX2_isHeld : ByteArray := prog_4_method_10_code
def yX2_isHeld : MethodName := ⟨RX2, "isHeld", "()Z"⟩
abbrev cX2_isWeightOnlyWhereTight : ByteArray := prog_4_method_11_code
def yX2_isWeightOnlyWhereTight : MethodName := ⟨RX2, "isWeightOnlyWhereTight", "()Z"⟩
def RX3 : String := "LeastInBounds$Fractions"
def TX3 : u_T := fun k => match k with
  | _ => ("", "", "", false)
def tyX3 : Nat → FieldType := fun k => match k with
  | _ => .int
theorem nmX3 : ∀ a, a < 0 → ∀ b, b < 0 → a ≠ b → (TX3 a).2.1 ≠ (TX3 b).2.1 := by decide +kernel
theorem tyX3_ok : ∀ k, k < 0 → parseFieldDescriptor (TX3 k).2.2.1 = some (tyX3 k) := by decide +kernel
abbrev cX3_told : ByteArray := prog_5_method_2_code
def yX3_told : MethodName := ⟨RX3, "told", "(JJI)J"⟩
abbrev cX3_shared : ByteArray := prog_5_method_3_code
def yX3_shared : MethodName := ⟨RX3, "shared", "(JJ)J"⟩
abbrev cX3_isLess : ByteArray := prog_5_method_4_code
def yX3_isLess : MethodName := ⟨RX3, "isLess", "(JJJJ)Z"⟩
def RX4 : String := "LeastInBounds$Point"
def TX4 : u_T := fun k => match k with
  | 0 => ("LeastInBounds$Point", "place", "[J", true)
  | 1 => ("LeastInBounds$Point", "weights", "[J", true)
  | _ => ("LeastInBounds$Point", "below", "J", false)
def tyX4 : Nat → FieldType := fun k => match k with
  | 0 => .array .long
  | 1 => .array .long
  | _ => .long
theorem nmX4 : ∀ a, a < 3 → ∀ b, b < 3 → a ≠ b → (TX4 a).2.1 ≠ (TX4 b).2.1 := by decide +kernel
theorem tyX4_ok : ∀ k, k < 3 → parseFieldDescriptor (TX4 k).2.2.1 = some (tyX4 k) := by decide +kernel
abbrev cX4_init : ByteArray := prog_6_method_1_code
def yX4_init : MethodName := ⟨RX4, "<init>", "()V"⟩
def RX5 : String := "LeastInBounds$Sheets"
def TX5 : u_T := fun k => match k with
  | 0 => ("LeastInBounds$Sheets", "sorts", "[I", true)
  | 1 => ("LeastInBounds$Sheets", "lengths", "[I", true)
  | _ => ("LeastInBounds$Sheets", "cells", "[J", true)
def tyX5 : Nat → FieldType := fun k => match k with
  | 0 => .array .int
  | 1 => .array .int
  | _ => .array .long
theorem nmX5 : ∀ a, a < 3 → ∀ b, b < 3 → a ≠ b → (TX5 a).2.1 ≠ (TX5 b).2.1 := by decide +kernel
theorem tyX5_ok : ∀ k, k < 3 → parseFieldDescriptor (TX5 k).2.2.1 = some (tyX5 k) := by decide +kernel
abbrev cX5_init : ByteArray := prog_7_method_1_code
def yX5_init : MethodName := ⟨RX5, "<init>", "()V"⟩
abbrev cX5_begin : ByteArray := prog_7_method_2_code
def yX5_begin : MethodName := ⟨RX5, "begin", "(III)V"⟩
abbrev cX5_at : ByteArray := prog_7_method_3_code
def yX5_at : MethodName := ⟨RX5, "at", "(II)J"⟩
abbrev cX5_put : ByteArray := prog_7_method_4_code
def yX5_put : MethodName := ⟨RX5, "put", "(IIJ)V"⟩
abbrev cX5_hasRoom : ByteArray := prog_7_method_5_code
def yX5_hasRoom : MethodName := ⟨RX5, "hasRoom", "(III)Z"⟩
abbrev cX5_move : ByteArray := prog_7_method_6_code
def yX5_move : MethodName := ⟨RX5, "move", "(IIIII)V"⟩
abbrev cX5_isAllWithin : ByteArray := prog_7_method_7_code
def yX5_isAllWithin : MethodName := ⟨RX5, "isAllWithin", "(IJ)Z"⟩
def RX6 : String := "LeastInBounds$Solver"
def TX6 : u_T := fun k => match k with
  | 0 => ("LeastInBounds$Solver", "bowl", "LLeastInBounds$Bowl;", true)
  | 1 => ("LeastInBounds$Solver", "now", "LLeastInBounds$Point;", true)
  | 2 => ("LeastInBounds$Solver", "drift", "LLeastInBounds$Point;", true)
  | 3 => ("LeastInBounds$Solver", "path", "[I", true)
  | 4 => ("LeastInBounds$Solver", "pathLength", "I", false)
  | 5 => ("LeastInBounds$Solver", "reachAbove", "J", false)
  | 6 => ("LeastInBounds$Solver", "reachBelow", "J", false)
  | 7 => ("LeastInBounds$Solver", "rows", "[[J", true)
  | 8 => ("LeastInBounds$Solver", "members", "[I", true)
  | 9 => ("LeastInBounds$Solver", "foundAt", "[I", true)
  | 10 => ("LeastInBounds$Solver", "height", "I", false)
  | 11 => ("LeastInBounds$Solver", "wide", "I", false)
  | _ => ("LeastInBounds$Solver", "below", "J", false)
def tyX6 : Nat → FieldType := fun k => match k with
  | 0 => .object "LeastInBounds$Bowl"
  | 1 => .object "LeastInBounds$Point"
  | 2 => .object "LeastInBounds$Point"
  | 3 => .array .int
  | 4 => .int
  | 5 => .long
  | 6 => .long
  | 7 => .array (.array .long)
  | 8 => .array .int
  | 9 => .array .int
  | 10 => .int
  | 11 => .int
  | _ => .long
theorem nmX6 : ∀ a, a < 13 → ∀ b, b < 13 → a ≠ b → (TX6 a).2.1 ≠ (TX6 b).2.1 := by decide +kernel
theorem tyX6_ok : ∀ k, k < 13 → parseFieldDescriptor (TX6 k).2.2.1 = some (tyX6 k) := by decide +kernel
abbrev cX6_init : ByteArray := prog_8_method_1_code
def yX6_init : MethodName := ⟨RX6, "<init>", "(LLeastInBounds$Bowl;)V"⟩
abbrev cX6_find : ByteArray := prog_8_method_2_code
def yX6_find : MethodName := ⟨RX6, "find", "(II)I"⟩
abbrev cX6_meet : ByteArray := prog_8_method_3_code
def yX6_meet : MethodName := ⟨RX6, "meet", "(I)Z"⟩
abbrev cX6_gather : ByteArray := prog_8_method_4_code
def yX6_gather : MethodName := ⟨RX6, "gather", "(I)V"⟩
abbrev cX6_fillBowlRows : ByteArray := prog_8_method_5_code
def yX6_fillBowlRows : MethodName := ⟨RX6, "fillBowlRows", "()V"⟩
abbrev cX6_fillLineRows : ByteArray := prog_8_method_6_code
def yX6_fillLineRows : MethodName := ⟨RX6, "fillLineRows", "()V"⟩
abbrev cX6_eliminate : ByteArray := prog_8_method_7_code
def yX6_eliminate : MethodName := ⟨RX6, "eliminate", "()Z"⟩
abbrev cX6_clearRow : ByteArray := prog_8_method_8_code
def yX6_clearRow : MethodName := ⟨RX6, "clearRow", "([J[JIJ)V"⟩
abbrev cX6_layAt : ByteArray := prog_8_method_9_code
def yX6_layAt : MethodName := ⟨RX6, "layAt", "(I)V"⟩
abbrev cX6_fits : ByteArray := prog_8_method_10_code
def yX6_fits : MethodName := ⟨RX6, "fits", "(I)Z"⟩
abbrev cX6_slackOf : ByteArray := prog_8_method_11_code
def yX6_slackOf : MethodName := ⟨RX6, "slackOf", "(I)J"⟩
abbrev cX6_heldLines : ByteArray := prog_8_method_12_code
def yX6_heldLines : MethodName := ⟨RX6, "heldLines", "()I"⟩
abbrev cX6_tightLines : ByteArray := prog_8_method_13_code
def yX6_tightLines : MethodName := ⟨RX6, "tightLines", "()I"⟩
abbrev cX6_twiceWorth : ByteArray := prog_8_method_14_code
def yX6_twiceWorth : MethodName := ⟨RX6, "twiceWorth", "()J"⟩
abbrev cX6_goPath : ByteArray := prog_8_method_15_code
def yX6_goPath : MethodName := ⟨RX6, "goPath", "()Z"⟩
abbrev cX6_changesTo : ByteArray := prog_8_method_16_code
def yX6_changesTo : MethodName := ⟨RX6, "changesTo", "(I)I"⟩
abbrev cX6_claimTides : ByteArray := prog_8_method_17_code
def yX6_claimTides : MethodName := ⟨RX6, "claimTides", "(III)V"⟩
abbrev cX6_findReach : ByteArray := prog_8_method_18_code
def yX6_findReach : MethodName := ⟨RX6, "findReach", "()Z"⟩
abbrev cX6_limitReach : ByteArray := prog_8_method_19_code
def yX6_limitReach : MethodName := ⟨RX6, "limitReach", "(JJ)V"⟩
def RX7 : String := "LeastInBounds"
def TX7 : u_T := fun k => match k with
  | 0 => ("LeastInBounds", "bowl", "LLeastInBounds$Bowl;", true)
  | 1 => ("LeastInBounds", "kept", "LLeastInBounds$Bowl;", true)
  | 2 => ("LeastInBounds", "round", "LLeastInBounds$Bowl;", true)
  | 3 => ("LeastInBounds", "solver", "LLeastInBounds$Solver;", true)
  | 4 => ("LeastInBounds", "nearSolver", "LLeastInBounds$Solver;", true)
  | 5 => ("LeastInBounds", "sheets", "LLeastInBounds$Sheets;", true)
  | 6 => ("LeastInBounds", "certificate", "LLeastInBounds$Certificate;", true)
  | 7 => ("LeastInBounds", "book", "LLeastInBounds$Book;", true)
  | _ => ("LeastInBounds", "hasImage", "Z", false)
def tyX7 : Nat → FieldType := fun k => match k with
  | 0 => .object "LeastInBounds$Bowl"
  | 1 => .object "LeastInBounds$Bowl"
  | 2 => .object "LeastInBounds$Bowl"
  | 3 => .object "LeastInBounds$Solver"
  | 4 => .object "LeastInBounds$Solver"
  | 5 => .object "LeastInBounds$Sheets"
  | 6 => .object "LeastInBounds$Certificate"
  | 7 => .object "LeastInBounds$Book"
  | _ => .boolean
theorem nmX7 : ∀ a, a < 9 → ∀ b, b < 9 → a ≠ b → (TX7 a).2.1 ≠ (TX7 b).2.1 := by decide +kernel
theorem tyX7_ok : ∀ k, k < 9 → parseFieldDescriptor (TX7 k).2.2.1 = some (tyX7 k) := by decide +kernel
abbrev cX7_init : ByteArray := prog_1_method_1_code
def yX7_init : MethodName := ⟨RX7, "<init>", "()V"⟩
abbrev cX7_size : ByteArray := prog_1_method_2_code
def yX7_size : MethodName := ⟨RX7, "size", "(I)I"⟩
abbrev cX7_bend : ByteArray := prog_1_method_3_code
def yX7_bend : MethodName := ⟨RX7, "bend", "(III)I"⟩
abbrev cX7_push : ByteArray := prog_1_method_4_code
def yX7_push : MethodName := ⟨RX7, "push", "(II)I"⟩
abbrev cX7_tide : ByteArray := prog_1_method_5_code
def yX7_tide : MethodName := ⟨RX7, "tide", "(I)I"⟩
abbrev cX7_line : ByteArray := prog_1_method_6_code
def yX7_line : MethodName := ⟨RX7, "line", "(III)I"⟩
abbrev cX7_slope : ByteArray := prog_1_method_7_code
def yX7_slope : MethodName := ⟨RX7, "slope", "(III)I"⟩
abbrev cX7_change : ByteArray := prog_1_method_8_code
def yX7_change : MethodName := ⟨RX7, "change", "(III)I"⟩
abbrev cX7_drop : ByteArray := prog_1_method_9_code
def yX7_drop : MethodName := ⟨RX7, "drop", "(I)I"⟩
abbrev cX7_lineOf : ByteArray := prog_1_method_10_code
def yX7_lineOf : MethodName := ⟨RX7, "lineOf", "(II)I"⟩
abbrev cX7_minor : ByteArray := prog_1_method_11_code
def yX7_minor : MethodName := ⟨RX7, "minor", "(I)I"⟩
abbrev cX7_isProper : ByteArray := prog_1_method_12_code
def yX7_isProper : MethodName := ⟨RX7, "isProper", "()I"⟩
abbrev cX7_working : ByteArray := prog_1_method_13_code
def yX7_working : MethodName := ⟨RX7, "working", "(I)I"⟩
abbrev cX7_answer : ByteArray := prog_1_method_14_code
def yX7_answer : MethodName := ⟨RX7, "answer", "(III)J"⟩
abbrev cX7_worth : ByteArray := prog_1_method_15_code
def yX7_worth : MethodName := ⟨RX7, "worth", "(II)J"⟩
abbrev cX7_weight : ByteArray := prog_1_method_16_code
def yX7_weight : MethodName := ⟨RX7, "weight", "(III)J"⟩
abbrev cX7_slack : ByteArray := prog_1_method_17_code
def yX7_slack : MethodName := ⟨RX7, "slack", "(III)J"⟩
abbrev cX7_held : ByteArray := prog_1_method_18_code
def yX7_held : MethodName := ⟨RX7, "held", "(I)I"⟩
abbrev cX7_tight : ByteArray := prog_1_method_19_code
def yX7_tight : MethodName := ⟨RX7, "tight", "(I)I"⟩
abbrev cX7_steps : ByteArray := prog_1_method_20_code
def yX7_steps : MethodName := ⟨RX7, "steps", "()I"⟩
abbrev cX7_walk : ByteArray := prog_1_method_21_code
def yX7_walk : MethodName := ⟨RX7, "walk", "(I)I"⟩
abbrev cX7_pieces : ByteArray := prog_1_method_22_code
def yX7_pieces : MethodName := ⟨RX7, "pieces", "(I)I"⟩
abbrev cX7_reach : ByteArray := prog_1_method_23_code
def yX7_reach : MethodName := ⟨RX7, "reach", "(I)J"⟩
abbrev cX7_nearest : ByteArray := prog_1_method_24_code
def yX7_nearest : MethodName := ⟨RX7, "nearest", "(IIIII)J"⟩
abbrev cX7_distance : ByteArray := prog_1_method_25_code
def yX7_distance : MethodName := ⟨RX7, "distance", "(IIII)J"⟩
abbrev cX7_certify : ByteArray := prog_1_method_26_code
def yX7_certify : MethodName := ⟨RX7, "certify", "(I)I"⟩
abbrev cX7_check : ByteArray := prog_1_method_27_code
def yX7_check : MethodName := ⟨RX7, "check", "(I)I"⟩
abbrev cX7_solve : ByteArray := prog_1_method_28_code
def yX7_solve : MethodName := ⟨RX7, "solve", "()I"⟩
abbrev cX7_notes : ByteArray := prog_1_method_29_code
def yX7_notes : MethodName := ⟨RX7, "notes", "()I"⟩
abbrev cX7_mark : ByteArray := prog_1_method_30_code
def yX7_mark : MethodName := ⟨RX7, "mark", "()J"⟩
abbrev cX7_trail : ByteArray := prog_1_method_31_code
def yX7_trail : MethodName := ⟨RX7, "trail", "(I)I"⟩
abbrev cX7_least : ByteArray := prog_1_method_32_code
def yX7_least : MethodName := ⟨RX7, "least", "(I)J"⟩
abbrev cX7_sheet : ByteArray := prog_1_method_33_code
def yX7_sheet : MethodName := ⟨RX7, "sheet", "(III)I"⟩
abbrev cX7_cell : ByteArray := prog_1_method_34_code
def yX7_cell : MethodName := ⟨RX7, "cell", "(IIJ)I"⟩
abbrev cX7_read : ByteArray := prog_1_method_35_code
def yX7_read : MethodName := ⟨RX7, "read", "(II)J"⟩
abbrev cX7_copy : ByteArray := prog_1_method_36_code
def yX7_copy : MethodName := ⟨RX7, "copy", "(IIIII)I"⟩
abbrev cX7_image : ByteArray := prog_1_method_37_code
def yX7_image : MethodName := ⟨RX7, "image", "()I"⟩
abbrev cX7_back : ByteArray := prog_1_method_38_code
def yX7_back : MethodName := ⟨RX7, "back", "()I"⟩
abbrev cX7_count : ByteArray := prog_1_method_39_code
def yX7_count : MethodName := ⟨RX7, "count", "(I)I"⟩
abbrev cX7_isVariable : ByteArray := prog_1_method_40_code
def yX7_isVariable : MethodName := ⟨RX7, "isVariable", "(I)Z"⟩
abbrev cX7_isLine : ByteArray := prog_1_method_41_code
def yX7_isLine : MethodName := ⟨RX7, "isLine", "(I)Z"⟩
abbrev cX7_isSet : ByteArray := prog_1_method_42_code
def yX7_isSet : MethodName := ⟨RX7, "isSet", "(I)Z"⟩
abbrev cX7_isOf : ByteArray := prog_1_method_43_code
def yX7_isOf : MethodName := ⟨RX7, "isOf", "(II)Z"⟩
abbrev cX7_isPart : ByteArray := prog_1_method_44_code
def yX7_isPart : MethodName := ⟨RX7, "isPart", "(I)Z"⟩
abbrev cX7_isSheet : ByteArray := prog_1_method_45_code
def yX7_isSheet : MethodName := ⟨RX7, "isSheet", "(I)Z"⟩
abbrev cX7_isKind : ByteArray := prog_1_method_46_code
def yX7_isKind : MethodName := ⟨RX7, "isKind", "(I)Z"⟩
abbrev cX7_isWithin : ByteArray := prog_1_method_47_code
def yX7_isWithin : MethodName := ⟨RX7, "isWithin", "(II)Z"⟩
abbrev cX7_isBend : ByteArray := prog_1_method_48_code
def yX7_isBend : MethodName := ⟨RX7, "isBend", "(ZI)Z"⟩
abbrev cX7_isChange : ByteArray := prog_1_method_49_code
def yX7_isChange : MethodName := ⟨RX7, "isChange", "(II)Z"⟩
abbrev cX7_refusedCell : ByteArray := prog_1_method_50_code
def yX7_refusedCell : MethodName := ⟨RX7, "refusedCell", "(II)I"⟩
abbrev cX7_find : ByteArray := prog_1_method_51_code
def yX7_find : MethodName := ⟨RX7, "find", "(ZI)I"⟩
abbrev cX7_findNear : ByteArray := prog_1_method_52_code
def yX7_findNear : MethodName := ⟨RX7, "findNear", "(ZIII)I"⟩
def RX8 : String := "LeastInBoundsModel"
def TX8 : u_T := fun k => match k with
  | 0 => ("LeastInBoundsModel", "n", "I", false)
  | 1 => ("LeastInBoundsModel", "bends", "[I", true)
  | 2 => ("LeastInBoundsModel", "pushes", "[I", true)
  | 3 => ("LeastInBoundsModel", "tide", "I", false)
  | 4 => ("LeastInBoundsModel", "lines", "I", false)
  | 5 => ("LeastInBoundsModel", "told", "[I", true)
  | 6 => ("LeastInBoundsModel", "isKept", "Z", false)
  | 7 => ("LeastInBoundsModel", "kept", "[I", true)
  | 8 => ("LeastInBoundsModel", "notes", "I", false)
  | 9 => ("LeastInBoundsModel", "mark", "J", false)
  | 10 => ("LeastInBoundsModel", "trail", "[I", true)
  | 11 => ("LeastInBoundsModel", "leastAbove", "J", false)
  | 12 => ("LeastInBoundsModel", "leastBelow", "J", false)
  | 13 => ("LeastInBoundsModel", "rows", "I", false)
  | 14 => ("LeastInBoundsModel", "cells", "[J", true)
  | 15 => ("LeastInBoundsModel", "partly", "[J", true)
  | 16 => ("LeastInBoundsModel", "x", "[J", true)
  | 17 => ("LeastInBoundsModel", "y", "[J", true)
  | 18 => ("LeastInBoundsModel", "below", "J", false)
  | 19 => ("LeastInBoundsModel", "xRise", "[J", true)
  | 20 => ("LeastInBoundsModel", "yRise", "[J", true)
  | 21 => ("LeastInBoundsModel", "some", "[I", true)
  | 22 => ("LeastInBoundsModel", "right", "[J", true)
  | 23 => ("LeastInBoundsModel", "walked", "[I", true)
  | 24 => ("LeastInBoundsModel", "walkMany", "I", false)
  | 25 => ("LeastInBoundsModel", "isBound", "Z", false)
  | 26 => ("LeastInBoundsModel", "reachAbove", "J", false)
  | 27 => ("LeastInBoundsModel", "reachBelow", "J", false)
  | 28 => ("LeastInBoundsModel", "aside", "[I", true)
  | 29 => ("LeastInBoundsModel", "nearWorth", "J", false)
  | 30 => ("LeastInBoundsModel", "sorts", "[I", true)
  | 31 => ("LeastInBoundsModel", "sizes", "[I", true)
  | _ => ("LeastInBoundsModel", "numbers", "[J", true)
def tyX8 : Nat → FieldType := fun k => match k with
  | 0 => .int
  | 1 => .array .int
  | 2 => .array .int
  | 3 => .int
  | 4 => .int
  | 5 => .array .int
  | 6 => .boolean
  | 7 => .array .int
  | 8 => .int
  | 9 => .long
  | 10 => .array .int
  | 11 => .long
  | 12 => .long
  | 13 => .int
  | 14 => .array .long
  | 15 => .array .long
  | 16 => .array .long
  | 17 => .array .long
  | 18 => .long
  | 19 => .array .long
  | 20 => .array .long
  | 21 => .array .int
  | 22 => .array .long
  | 23 => .array .int
  | 24 => .int
  | 25 => .boolean
  | 26 => .long
  | 27 => .long
  | 28 => .array .int
  | 29 => .long
  | 30 => .array .int
  | 31 => .array .int
  | _ => .array .long
theorem nmX8 : ∀ a, a < 33 → ∀ b, b < 33 → a ≠ b → (TX8 a).2.1 ≠ (TX8 b).2.1 := by decide +kernel
theorem tyX8_ok : ∀ k, k < 33 → parseFieldDescriptor (TX8 k).2.2.1 = some (tyX8 k) := by decide +kernel
abbrev cX8_init : ByteArray := prog_10_method_1_code
def yX8_init : MethodName := ⟨RX8, "<init>", "()V"⟩
abbrev cX8_in : ByteArray := prog_10_method_2_code
def yX8_in : MethodName := ⟨RX8, "in", "(JJJ)Z"⟩
abbrev cX8_has : ByteArray := prog_10_method_3_code
def yX8_has : MethodName := ⟨RX8, "has", "(II)Z"⟩
abbrev cX8_isPart : ByteArray := prog_10_method_4_code
def yX8_isPart : MethodName := ⟨RX8, "isPart", "(I)Z"⟩
abbrev cX8_refused : ByteArray := prog_10_method_5_code
def yX8_refused : MethodName := ⟨RX8, "refused", "(I)J"⟩
abbrev cX8_divisor : ByteArray := prog_10_method_6_code
def yX8_divisor : MethodName := ⟨RX8, "divisor", "(JJ)J"⟩
abbrev cX8_lowest : ByteArray := prog_10_method_7_code
def yX8_lowest : MethodName := ⟨RX8, "lowest", "(JJI)J"⟩
abbrev cX8_isLess : ByteArray := prog_10_method_8_code
def yX8_isLess : MethodName := ⟨RX8, "isLess", "(JJJJ)Z"⟩
abbrev cX8_isVariable : ByteArray := prog_10_method_9_code
def yX8_isVariable : MethodName := ⟨RX8, "isVariable", "(I)Z"⟩
abbrev cX8_isLine : ByteArray := prog_10_method_10_code
def yX8_isLine : MethodName := ⟨RX8, "isLine", "(I)Z"⟩
abbrev cX8_isSet : ByteArray := prog_10_method_11_code
def yX8_isSet : MethodName := ⟨RX8, "isSet", "(I)Z"⟩
abbrev cX8_all : ByteArray := prog_10_method_12_code
def yX8_all : MethodName := ⟨RX8, "all", "()I"⟩
abbrev cX8_size : ByteArray := prog_10_method_13_code
def yX8_size : MethodName := ⟨RX8, "size", "(I)I"⟩
abbrev cX8_bend : ByteArray := prog_10_method_14_code
def yX8_bend : MethodName := ⟨RX8, "bend", "(III)I"⟩
abbrev cX8_push : ByteArray := prog_10_method_15_code
def yX8_push : MethodName := ⟨RX8, "push", "(II)I"⟩
abbrev cX8_tide : ByteArray := prog_10_method_16_code
def yX8_tide : MethodName := ⟨RX8, "tide", "(I)I"⟩
abbrev cX8_line : ByteArray := prog_10_method_17_code
def yX8_line : MethodName := ⟨RX8, "line", "(III)I"⟩
abbrev cX8_becomes : ByteArray := prog_10_method_18_code
def yX8_becomes : MethodName := ⟨RX8, "becomes", "(II)I"⟩
abbrev cX8_slope : ByteArray := prog_10_method_19_code
def yX8_slope : MethodName := ⟨RX8, "slope", "(III)I"⟩
abbrev cX8_change : ByteArray := prog_10_method_20_code
def yX8_change : MethodName := ⟨RX8, "change", "(III)I"⟩
abbrev cX8_drop : ByteArray := prog_10_method_21_code
def yX8_drop : MethodName := ⟨RX8, "drop", "(I)I"⟩
abbrev cX8_row : ByteArray := prog_10_method_22_code
def yX8_row : MethodName := ⟨RX8, "row", "(II)I"⟩
abbrev cX8_bound : ByteArray := prog_10_method_23_code
def yX8_bound : MethodName := ⟨RX8, "bound", "(I)I"⟩
abbrev cX8_rise : ByteArray := prog_10_method_24_code
def yX8_rise : MethodName := ⟨RX8, "rise", "(I)I"⟩
abbrev cX8_isOn : ByteArray := prog_10_method_25_code
def yX8_isOn : MethodName := ⟨RX8, "isOn", "(I)Z"⟩
abbrev cX8_lineOf : ByteArray := prog_10_method_26_code
def yX8_lineOf : MethodName := ⟨RX8, "lineOf", "(II)I"⟩
abbrev cX8_determinant : ByteArray := prog_10_method_27_code
def yX8_determinant : MethodName := ⟨RX8, "determinant", "()J"⟩
abbrev cX8_minorOf : ByteArray := prog_10_method_28_code
def yX8_minorOf : MethodName := ⟨RX8, "minorOf", "(I)I"⟩
abbrev cX8_minor : ByteArray := prog_10_method_29_code
def yX8_minor : MethodName := ⟨RX8, "minor", "(I)I"⟩
abbrev cX8_proper : ByteArray := prog_10_method_30_code
def yX8_proper : MethodName := ⟨RX8, "proper", "()Z"⟩
abbrev cX8_isProper : ByteArray := prog_10_method_31_code
def yX8_isProper : MethodName := ⟨RX8, "isProper", "()I"⟩
abbrev cX8_laysCells : ByteArray := prog_10_method_32_code
def yX8_laysCells : MethodName := ⟨RX8, "laysCells", "(I)V"⟩
abbrev cX8_instead : ByteArray := prog_10_method_33_code
def yX8_instead : MethodName := ⟨RX8, "instead", "(I)J"⟩
abbrev cX8_laysSome : ByteArray := prog_10_method_34_code
def yX8_laysSome : MethodName := ⟨RX8, "laysSome", "(I)I"⟩
abbrev cX8_tells : ByteArray := prog_10_method_35_code
def yX8_tells : MethodName := ⟨RX8, "tells", "([J[JIZ)V"⟩
abbrev cX8_finds : ByteArray := prog_10_method_36_code
def yX8_finds : MethodName := ⟨RX8, "finds", "(I)Z"⟩
abbrev cX8_findsRise : ByteArray := prog_10_method_37_code
def yX8_findsRise : MethodName := ⟨RX8, "findsRise", "(I)V"⟩
abbrev cX8_slackOf : ByteArray := prog_10_method_38_code
def yX8_slackOf : MethodName := ⟨RX8, "slackOf", "(I)J"⟩
abbrev cX8_holds : ByteArray := prog_10_method_39_code
def yX8_holds : MethodName := ⟨RX8, "holds", "(I)Z"⟩
abbrev cX8_isRight : ByteArray := prog_10_method_40_code
def yX8_isRight : MethodName := ⟨RX8, "isRight", "(I)Z"⟩
abbrev cX8_works : ByteArray := prog_10_method_41_code
def yX8_works : MethodName := ⟨RX8, "works", "(I)I"⟩
abbrev cX8_working : ByteArray := prog_10_method_42_code
def yX8_working : MethodName := ⟨RX8, "working", "(I)I"⟩
abbrev cX8_lacks : ByteArray := prog_10_method_43_code
def yX8_lacks : MethodName := ⟨RX8, "lacks", "(IZ)I"⟩
abbrev cX8_answer : ByteArray := prog_10_method_44_code
def yX8_answer : MethodName := ⟨RX8, "answer", "(III)J"⟩
abbrev cX8_worthOf : ByteArray := prog_10_method_45_code
def yX8_worthOf : MethodName := ⟨RX8, "worthOf", "()J"⟩
abbrev cX8_worth : ByteArray := prog_10_method_46_code
def yX8_worth : MethodName := ⟨RX8, "worth", "(II)J"⟩
abbrev cX8_weight : ByteArray := prog_10_method_47_code
def yX8_weight : MethodName := ⟨RX8, "weight", "(III)J"⟩
abbrev cX8_slack : ByteArray := prog_10_method_48_code
def yX8_slack : MethodName := ⟨RX8, "slack", "(III)J"⟩
abbrev cX8_heldNow : ByteArray := prog_10_method_49_code
def yX8_heldNow : MethodName := ⟨RX8, "heldNow", "()I"⟩
abbrev cX8_held : ByteArray := prog_10_method_50_code
def yX8_held : MethodName := ⟨RX8, "held", "(I)I"⟩
abbrev cX8_tight : ByteArray := prog_10_method_51_code
def yX8_tight : MethodName := ⟨RX8, "tight", "(I)I"⟩
abbrev cX8_walks : ByteArray := prog_10_method_52_code
def yX8_walks : MethodName := ⟨RX8, "walks", "()Z"⟩
abbrev cX8_steps : ByteArray := prog_10_method_53_code
def yX8_steps : MethodName := ⟨RX8, "steps", "()I"⟩
abbrev cX8_walk : ByteArray := prog_10_method_54_code
def yX8_walk : MethodName := ⟨RX8, "walk", "(I)I"⟩
abbrev cX8_pieces : ByteArray := prog_10_method_55_code
def yX8_pieces : MethodName := ⟨RX8, "pieces", "(I)I"⟩
abbrev cX8_bounds : ByteArray := prog_10_method_56_code
def yX8_bounds : MethodName := ⟨RX8, "bounds", "(JJ)V"⟩
abbrev cX8_reach : ByteArray := prog_10_method_57_code
def yX8_reach : MethodName := ⟨RX8, "reach", "(I)J"⟩
abbrev cX8_isNear : ByteArray := prog_10_method_58_code
def yX8_isNear : MethodName := ⟨RX8, "isNear", "([I)Z"⟩
abbrev cX8_isPlace : ByteArray := prog_10_method_59_code
def yX8_isPlace : MethodName := ⟨RX8, "isPlace", "(III)Z"⟩
abbrev cX8_nearest : ByteArray := prog_10_method_60_code
def yX8_nearest : MethodName := ⟨RX8, "nearest", "(IIIII)J"⟩
abbrev cX8_distance : ByteArray := prog_10_method_61_code
def yX8_distance : MethodName := ⟨RX8, "distance", "(IIII)J"⟩
abbrev cX8_certify : ByteArray := prog_10_method_62_code
def yX8_certify : MethodName := ⟨RX8, "certify", "(I)I"⟩
abbrev cX8_isStill : ByteArray := prog_10_method_63_code
def yX8_isStill : MethodName := ⟨RX8, "isStill", "()Z"⟩
abbrev cX8_check : ByteArray := prog_10_method_64_code
def yX8_check : MethodName := ⟨RX8, "check", "(I)I"⟩
abbrev cX8_solve : ByteArray := prog_10_method_65_code
def yX8_solve : MethodName := ⟨RX8, "solve", "()I"⟩
abbrev cX8_notes : ByteArray := prog_10_method_66_code
def yX8_notes : MethodName := ⟨RX8, "notes", "()I"⟩
abbrev cX8_mark : ByteArray := prog_10_method_67_code
def yX8_mark : MethodName := ⟨RX8, "mark", "()J"⟩
abbrev cX8_trail : ByteArray := prog_10_method_68_code
def yX8_trail : MethodName := ⟨RX8, "trail", "(I)I"⟩
abbrev cX8_least : ByteArray := prog_10_method_69_code
def yX8_least : MethodName := ⟨RX8, "least", "(I)J"⟩
abbrev cX8_isSheet : ByteArray := prog_10_method_70_code
def yX8_isSheet : MethodName := ⟨RX8, "isSheet", "(I)Z"⟩
abbrev cX8_becomesRow : ByteArray := prog_10_method_71_code
def yX8_becomesRow : MethodName := ⟨RX8, "becomesRow", "(III)V"⟩
abbrev cX8_sheet : ByteArray := prog_10_method_72_code
def yX8_sheet : MethodName := ⟨RX8, "sheet", "(III)I"⟩
abbrev cX8_wrong : ByteArray := prog_10_method_73_code
def yX8_wrong : MethodName := ⟨RX8, "wrong", "(II)I"⟩
abbrev cX8_cell : ByteArray := prog_10_method_74_code
def yX8_cell : MethodName := ⟨RX8, "cell", "(IIJ)I"⟩
abbrev cX8_read : ByteArray := prog_10_method_75_code
def yX8_read : MethodName := ⟨RX8, "read", "(II)J"⟩
abbrev cX8_copy : ByteArray := prog_10_method_76_code
def yX8_copy : MethodName := ⟨RX8, "copy", "(IIIII)I"⟩
abbrev cX8_image : ByteArray := prog_10_method_77_code
def yX8_image : MethodName := ⟨RX8, "image", "()I"⟩
abbrev cX8_back : ByteArray := prog_10_method_78_code
def yX8_back : MethodName := ⟨RX8, "back", "()I"⟩
abbrev cX8_count : ByteArray := prog_10_method_79_code
def yX8_count : MethodName := ⟨RX8, "count", "(I)I"⟩
def RJ6 : String := "java/lang/Integer"
def TJ6 : u_T := fun k => match k with
  | _ => ("", "", "", false)
def tyJ6 : Nat → FieldType := fun k => match k with
  | _ => .int
theorem nmJ6 : ∀ a, a < 0 → ∀ b, b < 0 → a ≠ b → (TJ6 a).2.1 ≠ (TJ6 b).2.1 := by decide +kernel
theorem tyJ6_ok : ∀ k, k < 0 → parseFieldDescriptor (TJ6 k).2.2.1 = some (tyJ6 k) := by decide +kernel
abbrev cJ6_bitCount_0f7a4 : ByteArray := prog_11_method_49_code
def yJ6_bitCount_0f7a4 : MethodName := ⟨RJ6, "bitCount", "(I)I"⟩
def RJ9 : String := "java/lang/Math"
def TJ9 : u_T := fun k => match k with
  | _ => ("", "", "", false)
def tyJ9 : Nat → FieldType := fun k => match k with
  | _ => .int
theorem nmJ9 : ∀ a, a < 0 → ∀ b, b < 0 → a ≠ b → (TJ9 a).2.1 ≠ (TJ9 b).2.1 := by decide +kernel
theorem tyJ9_ok : ∀ k, k < 0 → parseFieldDescriptor (TJ9 k).2.2.1 = some (tyJ9 k) := by decide +kernel
abbrev cJ9_floorDiv_f86c9 : ByteArray := prog_12_method_49_code
def yJ9_floorDiv_f86c9 : MethodName := ⟨RJ9, "floorDiv", "(JJ)J"⟩
abbrev cJ9_abs_067f4 : ByteArray := prog_12_method_61_code
def yJ9_abs_067f4 : MethodName := ⟨RJ9, "abs", "(J)J"⟩
def RJ10 : String := "java/lang/System"
def TJ10 : u_T := fun k => match k with
  | _ => ("", "", "", false)
def tyJ10 : Nat → FieldType := fun k => match k with
  | _ => .int
theorem nmJ10 : ∀ a, a < 0 → ∀ b, b < 0 → a ≠ b → (TJ10 a).2.1 ≠ (TJ10 b).2.1 := by decide +kernel
theorem tyJ10_ok : ∀ k, k < 0 → parseFieldDescriptor (TJ10 k).2.2.1 = some (tyJ10 k) := by decide +kernel
def RJ7 : String := "java/util/Arrays"
def TJ7 : u_T := fun k => match k with
  | _ => ("", "", "", false)
def tyJ7 : Nat → FieldType := fun k => match k with
  | _ => .int
theorem nmJ7 : ∀ a, a < 0 → ∀ b, b < 0 → a ≠ b → (TJ7 a).2.1 ≠ (TJ7 b).2.1 := by decide +kernel
theorem tyJ7_ok : ∀ k, k < 0 → parseFieldDescriptor (TJ7 k).2.2.1 = some (tyJ7 k) := by decide +kernel
abbrev cJ7_fill_d0a16 : ByteArray := prog_14_method_101_code
def yJ7_fill_d0a16 : MethodName := ⟨RJ7, "fill", "([JJ)V"⟩
abbrev cJ7_fill_53178 : ByteArray := prog_14_method_103_code
def yJ7_fill_53178 : MethodName := ⟨RJ7, "fill", "([II)V"⟩
def RL : String := "LeastInBoundsLaw"
abbrev cL_law : ByteArray := code
def yL_law : MethodName := ⟨RL, "law", "([I)Z"⟩
end
section
theorem dX0_init_0 : decode cX0_init 0 = .ok (.aload_n 0, 1) := by decide +kernel
theorem dX0_init_1 : decode cX0_init 1 = .ok (.invokespecial 1, 3) := by decide +kernel
theorem dX0_init_4 : decode cX0_init 4 = .ok (.return_, 1) := by decide +kernel
theorem dX0_write_0 : decode cX0_write 0 = .ok (.aload_n 0, 1) := by decide +kernel
theorem dX0_write_1 : decode cX0_write 1 = .ok (.dup, 1) := by decide +kernel
theorem dX0_write_2 : decode cX0_write 2 = .ok (.getfield 7, 3) := by decide +kernel
theorem dX0_write_5 : decode cX0_write 5 = .ok (.iconst 1, 1) := by decide +kernel
theorem dX0_write_6 : decode cX0_write 6 = .ok (.iadd, 1) := by decide +kernel
theorem dX0_write_7 : decode cX0_write 7 = .ok (.putfield 7, 3) := by decide +kernel
theorem dX0_write_10 : decode cX0_write 10 = .ok (.aload_n 0, 1) := by decide +kernel
theorem dX0_write_11 : decode cX0_write 11 = .ok (.aload_n 0, 1) := by decide +kernel
theorem dX0_write_12 : decode cX0_write 12 = .ok (.getfield 13, 3) := by decide +kernel
theorem dX0_write_15 : decode cX0_write 15 = .ok (.ldc2_w 17, 3) := by decide +kernel
theorem dX0_write_18 : decode cX0_write 18 = .ok (.lmul, 1) := by decide +kernel
theorem dX0_write_19 : decode cX0_write 19 = .ok (.iload_n 1, 1) := by decide +kernel
theorem dX0_write_20 : decode cX0_write 20 = .ok (.i2l, 1) := by decide +kernel
theorem dX0_write_21 : decode cX0_write 21 = .ok (.ladd, 1) := by decide +kernel
theorem dX0_write_22 : decode cX0_write 22 = .ok (.putfield 13, 3) := by decide +kernel
theorem dX0_write_25 : decode cX0_write 25 = .ok (.aload_n 0, 1) := by decide +kernel
theorem dX0_write_26 : decode cX0_write 26 = .ok (.aload_n 0, 1) := by decide +kernel
theorem dX0_write_27 : decode cX0_write 27 = .ok (.getfield 19, 3) := by decide +kernel
theorem dX0_write_30 : decode cX0_write 30 = .ok (.bipush 8, 2) := by decide +kernel
theorem dX0_write_32 : decode cX0_write 32 = .ok (.lshl, 1) := by decide +kernel
theorem dX0_write_33 : decode cX0_write 33 = .ok (.iload_n 1, 1) := by decide +kernel
theorem dX0_write_34 : decode cX0_write 34 = .ok (.sipush 255, 3) := by decide +kernel
theorem dX0_write_37 : decode cX0_write 37 = .ok (.iand, 1) := by decide +kernel
theorem dX0_write_38 : decode cX0_write 38 = .ok (.i2l, 1) := by decide +kernel
theorem dX0_write_39 : decode cX0_write 39 = .ok (.lor, 1) := by decide +kernel
theorem dX0_write_40 : decode cX0_write 40 = .ok (.putfield 19, 3) := by decide +kernel
theorem dX0_write_43 : decode cX0_write 43 = .ok (.return_, 1) := by decide +kernel
theorem dX0_offer_0 : decode cX0_offer 0 = .ok (.aload_n 0, 1) := by decide +kernel
theorem dX0_offer_1 : decode cX0_offer 1 = .ok (.getfield 22, 3) := by decide +kernel
theorem dX0_offer_4 : decode cX0_offer 4 = .ok (.lconst 0, 1) := by decide +kernel
theorem dX0_offer_5 : decode cX0_offer 5 = .ok (.lcmp, 1) := by decide +kernel
theorem dX0_offer_6 : decode cX0_offer 6 = .ok (.ifCond .eq 19, 3) := by decide +kernel
theorem dX0_offer_9 : decode cX0_offer 9 = .ok (.lload_n 1, 1) := by decide +kernel
theorem dX0_offer_10 : decode cX0_offer 10 = .ok (.lload_n 3, 1) := by decide +kernel
theorem dX0_offer_11 : decode cX0_offer 11 = .ok (.aload_n 0, 1) := by decide +kernel
theorem dX0_offer_12 : decode cX0_offer 12 = .ok (.getfield 25, 3) := by decide +kernel
theorem dX0_offer_15 : decode cX0_offer 15 = .ok (.aload_n 0, 1) := by decide +kernel
theorem dX0_offer_16 : decode cX0_offer 16 = .ok (.getfield 22, 3) := by decide +kernel
theorem dX0_offer_19 : decode cX0_offer 19 = .ok (.invokestatic 28, 3) := by decide +kernel
theorem dX0_offer_22 : decode cX0_offer 22 = .ok (.ifCond .eq 13, 3) := by decide +kernel
theorem dX0_offer_25 : decode cX0_offer 25 = .ok (.aload_n 0, 1) := by decide +kernel
theorem dX0_offer_26 : decode cX0_offer 26 = .ok (.lload_n 1, 1) := by decide +kernel
theorem dX0_offer_27 : decode cX0_offer 27 = .ok (.putfield 25, 3) := by decide +kernel
theorem dX0_offer_30 : decode cX0_offer 30 = .ok (.aload_n 0, 1) := by decide +kernel
theorem dX0_offer_31 : decode cX0_offer 31 = .ok (.lload_n 3, 1) := by decide +kernel
theorem dX0_offer_32 : decode cX0_offer 32 = .ok (.putfield 22, 3) := by decide +kernel
theorem dX0_offer_35 : decode cX0_offer 35 = .ok (.return_, 1) := by decide +kernel
theorem dX0_lastBut_0 : decode cX0_lastBut 0 = .ok (.aload_n 0, 1) := by decide +kernel
theorem dX0_lastBut_1 : decode cX0_lastBut 1 = .ok (.getfield 19, 3) := by decide +kernel
theorem dX0_lastBut_4 : decode cX0_lastBut 4 = .ok (.bipush 8, 2) := by decide +kernel
theorem dX0_lastBut_6 : decode cX0_lastBut 6 = .ok (.iload_n 1, 1) := by decide +kernel
theorem dX0_lastBut_7 : decode cX0_lastBut 7 = .ok (.imul, 1) := by decide +kernel
theorem dX0_lastBut_8 : decode cX0_lastBut 8 = .ok (.lshr, 1) := by decide +kernel
theorem dX0_lastBut_9 : decode cX0_lastBut 9 = .ok (.l2i, 1) := by decide +kernel
theorem dX0_lastBut_10 : decode cX0_lastBut 10 = .ok (.i2b, 1) := by decide +kernel
theorem dX0_lastBut_11 : decode cX0_lastBut 11 = .ok (.ireturn, 1) := by decide +kernel
theorem dX1_init_0 : decode cX1_init 0 = .ok (.aload_n 0, 1) := by decide +kernel
theorem dX1_init_1 : decode cX1_init 1 = .ok (.invokespecial 3, 3) := by decide +kernel
theorem dX1_init_4 : decode cX1_init 4 = .ok (.aload_n 0, 1) := by decide +kernel
theorem dX1_init_5 : decode cX1_init 5 = .ok (.iconst 1, 1) := by decide +kernel
theorem dX1_init_6 : decode cX1_init 6 = .ok (.putfield 9, 3) := by decide +kernel
theorem dX1_init_9 : decode cX1_init 9 = .ok (.aload_n 0, 1) := by decide +kernel
theorem dX1_init_10 : decode cX1_init 10 = .ok (.bipush 9, 2) := by decide +kernel
theorem dX1_init_12 : decode cX1_init 12 = .ok (.newarray .int, 2) := by decide +kernel
theorem dX1_init_14 : decode cX1_init 14 = .ok (.putfield 15, 3) := by decide +kernel
theorem dX1_init_17 : decode cX1_init 17 = .ok (.aload_n 0, 1) := by decide +kernel
theorem dX1_init_18 : decode cX1_init 18 = .ok (.iconst 3, 1) := by decide +kernel
theorem dX1_init_19 : decode cX1_init 19 = .ok (.newarray .int, 2) := by decide +kernel
theorem dX1_init_21 : decode cX1_init 21 = .ok (.putfield 19, 3) := by decide +kernel
theorem dX1_init_24 : decode cX1_init 24 = .ok (.aload_n 0, 1) := by decide +kernel
theorem dX1_init_25 : decode cX1_init 25 = .ok (.bipush 6, 2) := by decide +kernel
theorem dX1_init_27 : decode cX1_init 27 = .ok (.newarray .int, 2) := by decide +kernel
theorem dX1_init_29 : decode cX1_init 29 = .ok (.putfield 22, 3) := by decide +kernel
theorem dX1_init_32 : decode cX1_init 32 = .ok (.aload_n 0, 1) := by decide +kernel
theorem dX1_init_33 : decode cX1_init 33 = .ok (.bipush 6, 2) := by decide +kernel
theorem dX1_init_35 : decode cX1_init 35 = .ok (.newarray .int, 2) := by decide +kernel
theorem dX1_init_37 : decode cX1_init 37 = .ok (.putfield 25, 3) := by decide +kernel
theorem dX1_init_40 : decode cX1_init 40 = .ok (.aload_n 0, 1) := by decide +kernel
theorem dX1_init_41 : decode cX1_init 41 = .ok (.bipush 6, 2) := by decide +kernel
theorem dX1_init_43 : decode cX1_init 43 = .ok (.newarray .int, 2) := by decide +kernel
theorem dX1_init_45 : decode cX1_init 45 = .ok (.putfield 28, 3) := by decide +kernel
theorem dX1_init_48 : decode cX1_init 48 = .ok (.aload_n 0, 1) := by decide +kernel
theorem dX1_init_49 : decode cX1_init 49 = .ok (.bipush 18, 2) := by decide +kernel
theorem dX1_init_51 : decode cX1_init 51 = .ok (.newarray .int, 2) := by decide +kernel
theorem dX1_init_53 : decode cX1_init 53 = .ok (.putfield 31, 3) := by decide +kernel
theorem dX1_init_56 : decode cX1_init 56 = .ok (.return_, 1) := by decide +kernel
theorem dX1_begin_0 : decode cX1_begin 0 = .ok (.aload_n 0, 1) := by decide +kernel
theorem dX1_begin_1 : decode cX1_begin 1 = .ok (.iload_n 1, 1) := by decide +kernel
theorem dX1_begin_2 : decode cX1_begin 2 = .ok (.putfield 9, 3) := by decide +kernel
theorem dX1_begin_5 : decode cX1_begin 5 = .ok (.aload_n 0, 1) := by decide +kernel
theorem dX1_begin_6 : decode cX1_begin 6 = .ok (.iconst 0, 1) := by decide +kernel
theorem dX1_begin_7 : decode cX1_begin 7 = .ok (.putfield 34, 3) := by decide +kernel
theorem dX1_begin_10 : decode cX1_begin 10 = .ok (.aload_n 0, 1) := by decide +kernel
theorem dX1_begin_11 : decode cX1_begin 11 = .ok (.iconst 0, 1) := by decide +kernel
theorem dX1_begin_12 : decode cX1_begin 12 = .ok (.putfield 37, 3) := by decide +kernel
theorem dX1_begin_15 : decode cX1_begin 15 = .ok (.aload_n 0, 1) := by decide +kernel
theorem dX1_begin_16 : decode cX1_begin 16 = .ok (.invokevirtual 40, 3) := by decide +kernel
theorem dX1_begin_19 : decode cX1_begin 19 = .ok (.aload_n 0, 1) := by decide +kernel
theorem dX1_begin_20 : decode cX1_begin 20 = .ok (.getfield 19, 3) := by decide +kernel
theorem dX1_begin_23 : decode cX1_begin 23 = .ok (.iconst 0, 1) := by decide +kernel
theorem dX1_begin_24 : decode cX1_begin 24 = .ok (.invokestatic 43, 3) := by decide +kernel
theorem dX1_begin_27 : decode cX1_begin 27 = .ok (.return_, 1) := by decide +kernel
theorem dX1_makeRound_0 : decode cX1_makeRound 0 = .ok (.aload_n 0, 1) := by decide +kernel
theorem dX1_makeRound_1 : decode cX1_makeRound 1 = .ok (.getfield 15, 3) := by decide +kernel
theorem dX1_makeRound_4 : decode cX1_makeRound 4 = .ok (.iconst 0, 1) := by decide +kernel
theorem dX1_makeRound_5 : decode cX1_makeRound 5 = .ok (.invokestatic 43, 3) := by decide +kernel
theorem dX1_makeRound_8 : decode cX1_makeRound 8 = .ok (.iconst 0, 1) := by decide +kernel
theorem dX1_makeRound_9 : decode cX1_makeRound 9 = .ok (.istore_n 1, 1) := by decide +kernel
theorem dX1_makeRound_10 : decode cX1_makeRound 10 = .ok (.iload_n 1, 1) := by decide +kernel
theorem dX1_makeRound_11 : decode cX1_makeRound 11 = .ok (.iconst 3, 1) := by decide +kernel
theorem dX1_makeRound_12 : decode cX1_makeRound 12 = .ok (.if_icmp .ge 16, 3) := by decide +kernel
theorem dX1_makeRound_15 : decode cX1_makeRound 15 = .ok (.aload_n 0, 1) := by decide +kernel
theorem dX1_makeRound_16 : decode cX1_makeRound 16 = .ok (.iload_n 1, 1) := by decide +kernel
theorem dX1_makeRound_17 : decode cX1_makeRound 17 = .ok (.iload_n 1, 1) := by decide +kernel
theorem dX1_makeRound_18 : decode cX1_makeRound 18 = .ok (.iconst 1, 1) := by decide +kernel
theorem dX1_makeRound_19 : decode cX1_makeRound 19 = .ok (.invokevirtual 49, 3) := by decide +kernel
theorem dX1_makeRound_22 : decode cX1_makeRound 22 = .ok (.iinc 1 1, 3) := by decide +kernel
theorem dX1_makeRound_25 : decode cX1_makeRound 25 = .ok (.goto (-15), 3) := by decide +kernel
theorem dX1_makeRound_28 : decode cX1_makeRound 28 = .ok (.return_, 1) := by decide +kernel
theorem dX1_become_0 : decode cX1_become 0 = .ok (.aload_n 0, 1) := by decide +kernel
theorem dX1_become_1 : decode cX1_become 1 = .ok (.aload_n 1, 1) := by decide +kernel
theorem dX1_become_2 : decode cX1_become 2 = .ok (.getfield 9, 3) := by decide +kernel
theorem dX1_become_5 : decode cX1_become 5 = .ok (.putfield 9, 3) := by decide +kernel
theorem dX1_become_8 : decode cX1_become 8 = .ok (.aload_n 0, 1) := by decide +kernel
theorem dX1_become_9 : decode cX1_become 9 = .ok (.aload_n 1, 1) := by decide +kernel
theorem dX1_become_10 : decode cX1_become 10 = .ok (.getfield 34, 3) := by decide +kernel
theorem dX1_become_13 : decode cX1_become 13 = .ok (.putfield 34, 3) := by decide +kernel
theorem dX1_become_16 : decode cX1_become 16 = .ok (.aload_n 0, 1) := by decide +kernel
theorem dX1_become_17 : decode cX1_become 17 = .ok (.aload_n 1, 1) := by decide +kernel
theorem dX1_become_18 : decode cX1_become 18 = .ok (.getfield 37, 3) := by decide +kernel
theorem dX1_become_21 : decode cX1_become 21 = .ok (.putfield 37, 3) := by decide +kernel
theorem dX1_become_24 : decode cX1_become 24 = .ok (.aload_n 1, 1) := by decide +kernel
theorem dX1_become_25 : decode cX1_become 25 = .ok (.getfield 15, 3) := by decide +kernel
theorem dX1_become_28 : decode cX1_become 28 = .ok (.iconst 0, 1) := by decide +kernel
theorem dX1_become_29 : decode cX1_become 29 = .ok (.aload_n 0, 1) := by decide +kernel
theorem dX1_become_30 : decode cX1_become 30 = .ok (.getfield 15, 3) := by decide +kernel
theorem dX1_become_33 : decode cX1_become 33 = .ok (.iconst 0, 1) := by decide +kernel
theorem dX1_become_34 : decode cX1_become 34 = .ok (.aload_n 0, 1) := by decide +kernel
theorem dX1_become_35 : decode cX1_become 35 = .ok (.getfield 15, 3) := by decide +kernel
theorem dX1_become_38 : decode cX1_become 38 = .ok (.arraylength, 1) := by decide +kernel
theorem dX1_become_39 : decode cX1_become 39 = .ok (.invokestatic 53, 3) := by decide +kernel
theorem dX1_become_42 : decode cX1_become 42 = .ok (.aload_n 1, 1) := by decide +kernel
theorem dX1_become_43 : decode cX1_become 43 = .ok (.getfield 19, 3) := by decide +kernel
theorem dX1_become_46 : decode cX1_become 46 = .ok (.iconst 0, 1) := by decide +kernel
theorem dX1_become_47 : decode cX1_become 47 = .ok (.aload_n 0, 1) := by decide +kernel
theorem dX1_become_48 : decode cX1_become 48 = .ok (.getfield 19, 3) := by decide +kernel
theorem dX1_become_51 : decode cX1_become 51 = .ok (.iconst 0, 1) := by decide +kernel
theorem dX1_become_52 : decode cX1_become 52 = .ok (.aload_n 0, 1) := by decide +kernel
theorem dX1_become_53 : decode cX1_become 53 = .ok (.getfield 19, 3) := by decide +kernel
theorem dX1_become_56 : decode cX1_become 56 = .ok (.arraylength, 1) := by decide +kernel
theorem dX1_become_57 : decode cX1_become 57 = .ok (.invokestatic 53, 3) := by decide +kernel
theorem dX1_become_60 : decode cX1_become 60 = .ok (.aload_n 1, 1) := by decide +kernel
theorem dX1_become_61 : decode cX1_become 61 = .ok (.getfield 22, 3) := by decide +kernel
theorem dX1_become_64 : decode cX1_become 64 = .ok (.iconst 0, 1) := by decide +kernel
theorem dX1_become_65 : decode cX1_become 65 = .ok (.aload_n 0, 1) := by decide +kernel
theorem dX1_become_66 : decode cX1_become 66 = .ok (.getfield 22, 3) := by decide +kernel
theorem dX1_become_69 : decode cX1_become 69 = .ok (.iconst 0, 1) := by decide +kernel
theorem dX1_become_70 : decode cX1_become 70 = .ok (.aload_n 0, 1) := by decide +kernel
theorem dX1_become_71 : decode cX1_become 71 = .ok (.getfield 22, 3) := by decide +kernel
theorem dX1_become_74 : decode cX1_become 74 = .ok (.arraylength, 1) := by decide +kernel
theorem dX1_become_75 : decode cX1_become 75 = .ok (.invokestatic 53, 3) := by decide +kernel
theorem dX1_become_78 : decode cX1_become 78 = .ok (.aload_n 1, 1) := by decide +kernel
theorem dX1_become_79 : decode cX1_become 79 = .ok (.getfield 25, 3) := by decide +kernel
theorem dX1_become_82 : decode cX1_become 82 = .ok (.iconst 0, 1) := by decide +kernel
theorem dX1_become_83 : decode cX1_become 83 = .ok (.aload_n 0, 1) := by decide +kernel
theorem dX1_become_84 : decode cX1_become 84 = .ok (.getfield 25, 3) := by decide +kernel
theorem dX1_become_87 : decode cX1_become 87 = .ok (.iconst 0, 1) := by decide +kernel
theorem dX1_become_88 : decode cX1_become 88 = .ok (.aload_n 0, 1) := by decide +kernel
theorem dX1_become_89 : decode cX1_become 89 = .ok (.getfield 25, 3) := by decide +kernel
theorem dX1_become_92 : decode cX1_become 92 = .ok (.arraylength, 1) := by decide +kernel
theorem dX1_become_93 : decode cX1_become 93 = .ok (.invokestatic 53, 3) := by decide +kernel
theorem dX1_become_96 : decode cX1_become 96 = .ok (.aload_n 1, 1) := by decide +kernel
theorem dX1_become_97 : decode cX1_become 97 = .ok (.getfield 28, 3) := by decide +kernel
theorem dX1_become_100 : decode cX1_become 100 = .ok (.iconst 0, 1) := by decide +kernel
theorem dX1_become_101 : decode cX1_become 101 = .ok (.aload_n 0, 1) := by decide +kernel
theorem dX1_become_102 : decode cX1_become 102 = .ok (.getfield 28, 3) := by decide +kernel
theorem dX1_become_105 : decode cX1_become 105 = .ok (.iconst 0, 1) := by decide +kernel
theorem dX1_become_106 : decode cX1_become 106 = .ok (.aload_n 0, 1) := by decide +kernel
theorem dX1_become_107 : decode cX1_become 107 = .ok (.getfield 28, 3) := by decide +kernel
theorem dX1_become_110 : decode cX1_become 110 = .ok (.arraylength, 1) := by decide +kernel
theorem dX1_become_111 : decode cX1_become 111 = .ok (.invokestatic 53, 3) := by decide +kernel
theorem dX1_become_114 : decode cX1_become 114 = .ok (.aload_n 1, 1) := by decide +kernel
theorem dX1_become_115 : decode cX1_become 115 = .ok (.getfield 31, 3) := by decide +kernel
theorem dX1_become_118 : decode cX1_become 118 = .ok (.iconst 0, 1) := by decide +kernel
theorem dX1_become_119 : decode cX1_become 119 = .ok (.aload_n 0, 1) := by decide +kernel
theorem dX1_become_120 : decode cX1_become 120 = .ok (.getfield 31, 3) := by decide +kernel
theorem dX1_become_123 : decode cX1_become 123 = .ok (.iconst 0, 1) := by decide +kernel
theorem dX1_become_124 : decode cX1_become 124 = .ok (.aload_n 0, 1) := by decide +kernel
theorem dX1_become_125 : decode cX1_become 125 = .ok (.getfield 31, 3) := by decide +kernel
theorem dX1_become_128 : decode cX1_become 128 = .ok (.arraylength, 1) := by decide +kernel
theorem dX1_become_129 : decode cX1_become 129 = .ok (.invokestatic 53, 3) := by decide +kernel
theorem dX1_become_132 : decode cX1_become 132 = .ok (.return_, 1) := by decide +kernel
theorem dX1_bendOf_0 : decode cX1_bendOf 0 = .ok (.aload_n 0, 1) := by decide +kernel
theorem dX1_bendOf_1 : decode cX1_bendOf 1 = .ok (.getfield 15, 3) := by decide +kernel
theorem dX1_bendOf_4 : decode cX1_bendOf 4 = .ok (.iload_n 1, 1) := by decide +kernel
theorem dX1_bendOf_5 : decode cX1_bendOf 5 = .ok (.iconst 3, 1) := by decide +kernel
theorem dX1_bendOf_6 : decode cX1_bendOf 6 = .ok (.imul, 1) := by decide +kernel
theorem dX1_bendOf_7 : decode cX1_bendOf 7 = .ok (.iload_n 2, 1) := by decide +kernel
theorem dX1_bendOf_8 : decode cX1_bendOf 8 = .ok (.iadd, 1) := by decide +kernel
theorem dX1_bendOf_9 : decode cX1_bendOf 9 = .ok (.iaload, 1) := by decide +kernel
theorem dX1_bendOf_10 : decode cX1_bendOf 10 = .ok (.ireturn, 1) := by decide +kernel
theorem dX1_putBend_0 : decode cX1_putBend 0 = .ok (.aload_n 0, 1) := by decide +kernel
theorem dX1_putBend_1 : decode cX1_putBend 1 = .ok (.getfield 15, 3) := by decide +kernel
theorem dX1_putBend_4 : decode cX1_putBend 4 = .ok (.iload_n 1, 1) := by decide +kernel
theorem dX1_putBend_5 : decode cX1_putBend 5 = .ok (.iconst 3, 1) := by decide +kernel
theorem dX1_putBend_6 : decode cX1_putBend 6 = .ok (.imul, 1) := by decide +kernel
theorem dX1_putBend_7 : decode cX1_putBend 7 = .ok (.iload_n 2, 1) := by decide +kernel
theorem dX1_putBend_8 : decode cX1_putBend 8 = .ok (.iadd, 1) := by decide +kernel
theorem dX1_putBend_9 : decode cX1_putBend 9 = .ok (.iload_n 3, 1) := by decide +kernel
theorem dX1_putBend_10 : decode cX1_putBend 10 = .ok (.iastore, 1) := by decide +kernel
theorem dX1_putBend_11 : decode cX1_putBend 11 = .ok (.aload_n 0, 1) := by decide +kernel
theorem dX1_putBend_12 : decode cX1_putBend 12 = .ok (.getfield 15, 3) := by decide +kernel
theorem dX1_putBend_15 : decode cX1_putBend 15 = .ok (.iload_n 2, 1) := by decide +kernel
theorem dX1_putBend_16 : decode cX1_putBend 16 = .ok (.iconst 3, 1) := by decide +kernel
theorem dX1_putBend_17 : decode cX1_putBend 17 = .ok (.imul, 1) := by decide +kernel
theorem dX1_putBend_18 : decode cX1_putBend 18 = .ok (.iload_n 1, 1) := by decide +kernel
theorem dX1_putBend_19 : decode cX1_putBend 19 = .ok (.iadd, 1) := by decide +kernel
theorem dX1_putBend_20 : decode cX1_putBend 20 = .ok (.iload_n 3, 1) := by decide +kernel
theorem dX1_putBend_21 : decode cX1_putBend 21 = .ok (.iastore, 1) := by decide +kernel
theorem dX1_putBend_22 : decode cX1_putBend 22 = .ok (.return_, 1) := by decide +kernel
theorem dX1_addLine_0 : decode cX1_addLine 0 = .ok (.aload_n 0, 1) := by decide +kernel
theorem dX1_addLine_1 : decode cX1_addLine 1 = .ok (.getfield 37, 3) := by decide +kernel
theorem dX1_addLine_4 : decode cX1_addLine 4 = .ok (.istore 4, 2) := by decide +kernel
theorem dX1_addLine_6 : decode cX1_addLine 6 = .ok (.aload_n 0, 1) := by decide +kernel
theorem dX1_addLine_7 : decode cX1_addLine 7 = .ok (.getfield 22, 3) := by decide +kernel
theorem dX1_addLine_10 : decode cX1_addLine 10 = .ok (.iload 4, 2) := by decide +kernel
theorem dX1_addLine_12 : decode cX1_addLine 12 = .ok (.iload_n 1, 1) := by decide +kernel
theorem dX1_addLine_13 : decode cX1_addLine 13 = .ok (.iastore, 1) := by decide +kernel
theorem dX1_addLine_14 : decode cX1_addLine 14 = .ok (.aload_n 0, 1) := by decide +kernel
theorem dX1_addLine_15 : decode cX1_addLine 15 = .ok (.getfield 25, 3) := by decide +kernel
theorem dX1_addLine_18 : decode cX1_addLine 18 = .ok (.iload 4, 2) := by decide +kernel
theorem dX1_addLine_20 : decode cX1_addLine 20 = .ok (.iload_n 2, 1) := by decide +kernel
theorem dX1_addLine_21 : decode cX1_addLine 21 = .ok (.iastore, 1) := by decide +kernel
theorem dX1_addLine_22 : decode cX1_addLine 22 = .ok (.aload_n 0, 1) := by decide +kernel
theorem dX1_addLine_23 : decode cX1_addLine 23 = .ok (.getfield 28, 3) := by decide +kernel
theorem dX1_addLine_26 : decode cX1_addLine 26 = .ok (.iload 4, 2) := by decide +kernel
theorem dX1_addLine_28 : decode cX1_addLine 28 = .ok (.iload_n 3, 1) := by decide +kernel
theorem dX1_addLine_29 : decode cX1_addLine 29 = .ok (.iastore, 1) := by decide +kernel
theorem dX1_addLine_30 : decode cX1_addLine 30 = .ok (.iconst 0, 1) := by decide +kernel
theorem dX1_addLine_31 : decode cX1_addLine 31 = .ok (.istore 5, 2) := by decide +kernel
theorem dX1_addLine_33 : decode cX1_addLine 33 = .ok (.iload 5, 2) := by decide +kernel
theorem dX1_addLine_35 : decode cX1_addLine 35 = .ok (.iconst 3, 1) := by decide +kernel
theorem dX1_addLine_36 : decode cX1_addLine 36 = .ok (.if_icmp .ge 22, 3) := by decide +kernel
theorem dX1_addLine_39 : decode cX1_addLine 39 = .ok (.aload_n 0, 1) := by decide +kernel
theorem dX1_addLine_40 : decode cX1_addLine 40 = .ok (.getfield 31, 3) := by decide +kernel
theorem dX1_addLine_43 : decode cX1_addLine 43 = .ok (.iload 4, 2) := by decide +kernel
theorem dX1_addLine_45 : decode cX1_addLine 45 = .ok (.iconst 3, 1) := by decide +kernel
theorem dX1_addLine_46 : decode cX1_addLine 46 = .ok (.imul, 1) := by decide +kernel
theorem dX1_addLine_47 : decode cX1_addLine 47 = .ok (.iload 5, 2) := by decide +kernel
theorem dX1_addLine_49 : decode cX1_addLine 49 = .ok (.iadd, 1) := by decide +kernel
theorem dX1_addLine_50 : decode cX1_addLine 50 = .ok (.iconst 0, 1) := by decide +kernel
theorem dX1_addLine_51 : decode cX1_addLine 51 = .ok (.iastore, 1) := by decide +kernel
theorem dX1_addLine_52 : decode cX1_addLine 52 = .ok (.iinc 5 1, 3) := by decide +kernel
theorem dX1_addLine_55 : decode cX1_addLine 55 = .ok (.goto (-22), 3) := by decide +kernel
theorem dX1_addLine_58 : decode cX1_addLine 58 = .ok (.aload_n 0, 1) := by decide +kernel
theorem dX1_addLine_59 : decode cX1_addLine 59 = .ok (.iload 4, 2) := by decide +kernel
theorem dX1_addLine_61 : decode cX1_addLine 61 = .ok (.iconst 1, 1) := by decide +kernel
theorem dX1_addLine_62 : decode cX1_addLine 62 = .ok (.iadd, 1) := by decide +kernel
theorem dX1_addLine_63 : decode cX1_addLine 63 = .ok (.putfield 37, 3) := by decide +kernel
theorem dX1_addLine_66 : decode cX1_addLine 66 = .ok (.iload 4, 2) := by decide +kernel
theorem dX1_addLine_68 : decode cX1_addLine 68 = .ok (.ireturn, 1) := by decide +kernel
theorem dX1_removeLine_0 : decode cX1_removeLine 0 = .ok (.aload_n 0, 1) := by decide +kernel
theorem dX1_removeLine_1 : decode cX1_removeLine 1 = .ok (.getfield 37, 3) := by decide +kernel
theorem dX1_removeLine_4 : decode cX1_removeLine 4 = .ok (.iload_n 1, 1) := by decide +kernel
theorem dX1_removeLine_5 : decode cX1_removeLine 5 = .ok (.isub, 1) := by decide +kernel
theorem dX1_removeLine_6 : decode cX1_removeLine 6 = .ok (.iconst 1, 1) := by decide +kernel
theorem dX1_removeLine_7 : decode cX1_removeLine 7 = .ok (.isub, 1) := by decide +kernel
theorem dX1_removeLine_8 : decode cX1_removeLine 8 = .ok (.istore_n 2, 1) := by decide +kernel
theorem dX1_removeLine_9 : decode cX1_removeLine 9 = .ok (.aload_n 0, 1) := by decide +kernel
theorem dX1_removeLine_10 : decode cX1_removeLine 10 = .ok (.getfield 22, 3) := by decide +kernel
theorem dX1_removeLine_13 : decode cX1_removeLine 13 = .ok (.iload_n 1, 1) := by decide +kernel
theorem dX1_removeLine_14 : decode cX1_removeLine 14 = .ok (.iconst 1, 1) := by decide +kernel
theorem dX1_removeLine_15 : decode cX1_removeLine 15 = .ok (.iadd, 1) := by decide +kernel
theorem dX1_removeLine_16 : decode cX1_removeLine 16 = .ok (.aload_n 0, 1) := by decide +kernel
theorem dX1_removeLine_17 : decode cX1_removeLine 17 = .ok (.getfield 22, 3) := by decide +kernel
theorem dX1_removeLine_20 : decode cX1_removeLine 20 = .ok (.iload_n 1, 1) := by decide +kernel
theorem dX1_removeLine_21 : decode cX1_removeLine 21 = .ok (.iload_n 2, 1) := by decide +kernel
theorem dX1_removeLine_22 : decode cX1_removeLine 22 = .ok (.invokestatic 53, 3) := by decide +kernel
theorem dX1_removeLine_25 : decode cX1_removeLine 25 = .ok (.aload_n 0, 1) := by decide +kernel
theorem dX1_removeLine_26 : decode cX1_removeLine 26 = .ok (.getfield 25, 3) := by decide +kernel
theorem dX1_removeLine_29 : decode cX1_removeLine 29 = .ok (.iload_n 1, 1) := by decide +kernel
theorem dX1_removeLine_30 : decode cX1_removeLine 30 = .ok (.iconst 1, 1) := by decide +kernel
theorem dX1_removeLine_31 : decode cX1_removeLine 31 = .ok (.iadd, 1) := by decide +kernel
theorem dX1_removeLine_32 : decode cX1_removeLine 32 = .ok (.aload_n 0, 1) := by decide +kernel
theorem dX1_removeLine_33 : decode cX1_removeLine 33 = .ok (.getfield 25, 3) := by decide +kernel
theorem dX1_removeLine_36 : decode cX1_removeLine 36 = .ok (.iload_n 1, 1) := by decide +kernel
theorem dX1_removeLine_37 : decode cX1_removeLine 37 = .ok (.iload_n 2, 1) := by decide +kernel
theorem dX1_removeLine_38 : decode cX1_removeLine 38 = .ok (.invokestatic 53, 3) := by decide +kernel
theorem dX1_removeLine_41 : decode cX1_removeLine 41 = .ok (.aload_n 0, 1) := by decide +kernel
theorem dX1_removeLine_42 : decode cX1_removeLine 42 = .ok (.getfield 28, 3) := by decide +kernel
theorem dX1_removeLine_45 : decode cX1_removeLine 45 = .ok (.iload_n 1, 1) := by decide +kernel
theorem dX1_removeLine_46 : decode cX1_removeLine 46 = .ok (.iconst 1, 1) := by decide +kernel
theorem dX1_removeLine_47 : decode cX1_removeLine 47 = .ok (.iadd, 1) := by decide +kernel
theorem dX1_removeLine_48 : decode cX1_removeLine 48 = .ok (.aload_n 0, 1) := by decide +kernel
theorem dX1_removeLine_49 : decode cX1_removeLine 49 = .ok (.getfield 28, 3) := by decide +kernel
theorem dX1_removeLine_52 : decode cX1_removeLine 52 = .ok (.iload_n 1, 1) := by decide +kernel
theorem dX1_removeLine_53 : decode cX1_removeLine 53 = .ok (.iload_n 2, 1) := by decide +kernel
theorem dX1_removeLine_54 : decode cX1_removeLine 54 = .ok (.invokestatic 53, 3) := by decide +kernel
theorem dX1_removeLine_57 : decode cX1_removeLine 57 = .ok (.aload_n 0, 1) := by decide +kernel
theorem dX1_removeLine_58 : decode cX1_removeLine 58 = .ok (.getfield 31, 3) := by decide +kernel
theorem dX1_removeLine_61 : decode cX1_removeLine 61 = .ok (.iload_n 1, 1) := by decide +kernel
theorem dX1_removeLine_62 : decode cX1_removeLine 62 = .ok (.iconst 1, 1) := by decide +kernel
theorem dX1_removeLine_63 : decode cX1_removeLine 63 = .ok (.iadd, 1) := by decide +kernel
theorem dX1_removeLine_64 : decode cX1_removeLine 64 = .ok (.iconst 3, 1) := by decide +kernel
theorem dX1_removeLine_65 : decode cX1_removeLine 65 = .ok (.imul, 1) := by decide +kernel
theorem dX1_removeLine_66 : decode cX1_removeLine 66 = .ok (.aload_n 0, 1) := by decide +kernel
theorem dX1_removeLine_67 : decode cX1_removeLine 67 = .ok (.getfield 31, 3) := by decide +kernel
theorem dX1_removeLine_70 : decode cX1_removeLine 70 = .ok (.iload_n 1, 1) := by decide +kernel
theorem dX1_removeLine_71 : decode cX1_removeLine 71 = .ok (.iconst 3, 1) := by decide +kernel
theorem dX1_removeLine_72 : decode cX1_removeLine 72 = .ok (.imul, 1) := by decide +kernel
theorem dX1_removeLine_73 : decode cX1_removeLine 73 = .ok (.iload_n 2, 1) := by decide +kernel
theorem dX1_removeLine_74 : decode cX1_removeLine 74 = .ok (.iconst 3, 1) := by decide +kernel
theorem dX1_removeLine_75 : decode cX1_removeLine 75 = .ok (.imul, 1) := by decide +kernel
theorem dX1_removeLine_76 : decode cX1_removeLine 76 = .ok (.invokestatic 53, 3) := by decide +kernel
theorem dX1_removeLine_79 : decode cX1_removeLine 79 = .ok (.aload_n 0, 1) := by decide +kernel
theorem dX1_removeLine_80 : decode cX1_removeLine 80 = .ok (.dup, 1) := by decide +kernel
theorem dX1_removeLine_81 : decode cX1_removeLine 81 = .ok (.getfield 37, 3) := by decide +kernel
theorem dX1_removeLine_84 : decode cX1_removeLine 84 = .ok (.iconst 1, 1) := by decide +kernel
theorem dX1_removeLine_85 : decode cX1_removeLine 85 = .ok (.isub, 1) := by decide +kernel
theorem dX1_removeLine_86 : decode cX1_removeLine 86 = .ok (.putfield 37, 3) := by decide +kernel
theorem dX1_removeLine_89 : decode cX1_removeLine 89 = .ok (.return_, 1) := by decide +kernel
theorem dX1_isOn_0 : decode cX1_isOn 0 = .ok (.aload_n 0, 1) := by decide +kernel
theorem dX1_isOn_1 : decode cX1_isOn 1 = .ok (.getfield 22, 3) := by decide +kernel
theorem dX1_isOn_4 : decode cX1_isOn 4 = .ok (.iload_n 1, 1) := by decide +kernel
theorem dX1_isOn_5 : decode cX1_isOn 5 = .ok (.iaload, 1) := by decide +kernel
theorem dX1_isOn_6 : decode cX1_isOn 6 = .ok (.iconst 2, 1) := by decide +kernel
theorem dX1_isOn_7 : decode cX1_isOn 7 = .ok (.if_icmp .ne 7, 3) := by decide +kernel
theorem dX1_isOn_10 : decode cX1_isOn 10 = .ok (.iconst 1, 1) := by decide +kernel
theorem dX1_isOn_11 : decode cX1_isOn 11 = .ok (.goto 4, 3) := by decide +kernel
theorem dX1_isOn_14 : decode cX1_isOn 14 = .ok (.iconst 0, 1) := by decide +kernel
theorem dX1_isOn_15 : decode cX1_isOn 15 = .ok (.ireturn, 1) := by decide +kernel
theorem dX1_rowOf_0 : decode cX1_rowOf 0 = .ok (.aload_n 0, 1) := by decide +kernel
theorem dX1_rowOf_1 : decode cX1_rowOf 1 = .ok (.getfield 31, 3) := by decide +kernel
theorem dX1_rowOf_4 : decode cX1_rowOf 4 = .ok (.iload_n 1, 1) := by decide +kernel
theorem dX1_rowOf_5 : decode cX1_rowOf 5 = .ok (.iconst 3, 1) := by decide +kernel
theorem dX1_rowOf_6 : decode cX1_rowOf 6 = .ok (.imul, 1) := by decide +kernel
theorem dX1_rowOf_7 : decode cX1_rowOf 7 = .ok (.iload_n 2, 1) := by decide +kernel
theorem dX1_rowOf_8 : decode cX1_rowOf 8 = .ok (.iadd, 1) := by decide +kernel
theorem dX1_rowOf_9 : decode cX1_rowOf 9 = .ok (.iaload, 1) := by decide +kernel
theorem dX1_rowOf_10 : decode cX1_rowOf 10 = .ok (.istore_n 3, 1) := by decide +kernel
theorem dX1_rowOf_11 : decode cX1_rowOf 11 = .ok (.aload_n 0, 1) := by decide +kernel
theorem dX1_rowOf_12 : decode cX1_rowOf 12 = .ok (.getfield 22, 3) := by decide +kernel
theorem dX1_rowOf_15 : decode cX1_rowOf 15 = .ok (.iload_n 1, 1) := by decide +kernel
theorem dX1_rowOf_16 : decode cX1_rowOf 16 = .ok (.iaload, 1) := by decide +kernel
theorem dX1_rowOf_17 : decode cX1_rowOf 17 = .ok (.tableswitch 38 1 4 #[31, 38, 34, 31], 31) := by decide +kernel
theorem dX1_rowOf_48 : decode cX1_rowOf 48 = .ok (.iload_n 3, 1) := by decide +kernel
theorem dX1_rowOf_49 : decode cX1_rowOf 49 = .ok (.ineg, 1) := by decide +kernel
theorem dX1_rowOf_50 : decode cX1_rowOf 50 = .ok (.ireturn, 1) := by decide +kernel
theorem dX1_rowOf_51 : decode cX1_rowOf 51 = .ok (.iconst 2, 1) := by decide +kernel
theorem dX1_rowOf_52 : decode cX1_rowOf 52 = .ok (.iload_n 3, 1) := by decide +kernel
theorem dX1_rowOf_53 : decode cX1_rowOf 53 = .ok (.imul, 1) := by decide +kernel
theorem dX1_rowOf_54 : decode cX1_rowOf 54 = .ok (.ireturn, 1) := by decide +kernel
theorem dX1_rowOf_55 : decode cX1_rowOf 55 = .ok (.iload_n 3, 1) := by decide +kernel
theorem dX1_rowOf_56 : decode cX1_rowOf 56 = .ok (.ireturn, 1) := by decide +kernel
theorem dX1_boundOf_0 : decode cX1_boundOf 0 = .ok (.aload_n 0, 1) := by decide +kernel
theorem dX1_boundOf_1 : decode cX1_boundOf 1 = .ok (.getfield 25, 3) := by decide +kernel
theorem dX1_boundOf_4 : decode cX1_boundOf 4 = .ok (.iload_n 1, 1) := by decide +kernel
theorem dX1_boundOf_5 : decode cX1_boundOf 5 = .ok (.iaload, 1) := by decide +kernel
theorem dX1_boundOf_6 : decode cX1_boundOf 6 = .ok (.iload_n 2, 1) := by decide +kernel
theorem dX1_boundOf_7 : decode cX1_boundOf 7 = .ok (.aload_n 0, 1) := by decide +kernel
theorem dX1_boundOf_8 : decode cX1_boundOf 8 = .ok (.getfield 28, 3) := by decide +kernel
theorem dX1_boundOf_11 : decode cX1_boundOf 11 = .ok (.iload_n 1, 1) := by decide +kernel
theorem dX1_boundOf_12 : decode cX1_boundOf 12 = .ok (.iaload, 1) := by decide +kernel
theorem dX1_boundOf_13 : decode cX1_boundOf 13 = .ok (.imul, 1) := by decide +kernel
theorem dX1_boundOf_14 : decode cX1_boundOf 14 = .ok (.iadd, 1) := by decide +kernel
theorem dX1_boundOf_15 : decode cX1_boundOf 15 = .ok (.istore_n 3, 1) := by decide +kernel
theorem dX1_boundOf_16 : decode cX1_boundOf 16 = .ok (.aload_n 0, 1) := by decide +kernel
theorem dX1_boundOf_17 : decode cX1_boundOf 17 = .ok (.getfield 22, 3) := by decide +kernel
theorem dX1_boundOf_20 : decode cX1_boundOf 20 = .ok (.iload_n 1, 1) := by decide +kernel
theorem dX1_boundOf_21 : decode cX1_boundOf 21 = .ok (.iaload, 1) := by decide +kernel
theorem dX1_boundOf_22 : decode cX1_boundOf 22 = .ok (.lookupswitch 34 #[(1, 26), (4, 29)], 26) := by decide +kernel
theorem dX1_boundOf_48 : decode cX1_boundOf 48 = .ok (.iload_n 3, 1) := by decide +kernel
theorem dX1_boundOf_49 : decode cX1_boundOf 49 = .ok (.ineg, 1) := by decide +kernel
theorem dX1_boundOf_50 : decode cX1_boundOf 50 = .ok (.ireturn, 1) := by decide +kernel
theorem dX1_boundOf_51 : decode cX1_boundOf 51 = .ok (.iload_n 3, 1) := by decide +kernel
theorem dX1_boundOf_52 : decode cX1_boundOf 52 = .ok (.ineg, 1) := by decide +kernel
theorem dX1_boundOf_53 : decode cX1_boundOf 53 = .ok (.iconst 1, 1) := by decide +kernel
theorem dX1_boundOf_54 : decode cX1_boundOf 54 = .ok (.isub, 1) := by decide +kernel
theorem dX1_boundOf_55 : decode cX1_boundOf 55 = .ok (.ireturn, 1) := by decide +kernel
theorem dX1_boundOf_56 : decode cX1_boundOf 56 = .ok (.iload_n 3, 1) := by decide +kernel
theorem dX1_boundOf_57 : decode cX1_boundOf 57 = .ok (.ireturn, 1) := by decide +kernel
theorem dX1_driftOf_0 : decode cX1_driftOf 0 = .ok (.aload_n 0, 1) := by decide +kernel
theorem dX1_driftOf_1 : decode cX1_driftOf 1 = .ok (.iload_n 1, 1) := by decide +kernel
theorem dX1_driftOf_2 : decode cX1_driftOf 2 = .ok (.iconst 1, 1) := by decide +kernel
theorem dX1_driftOf_3 : decode cX1_driftOf 3 = .ok (.invokevirtual 59, 3) := by decide +kernel
theorem dX1_driftOf_6 : decode cX1_driftOf 6 = .ok (.aload_n 0, 1) := by decide +kernel
theorem dX1_driftOf_7 : decode cX1_driftOf 7 = .ok (.iload_n 1, 1) := by decide +kernel
theorem dX1_driftOf_8 : decode cX1_driftOf 8 = .ok (.iconst 0, 1) := by decide +kernel
theorem dX1_driftOf_9 : decode cX1_driftOf 9 = .ok (.invokevirtual 59, 3) := by decide +kernel
theorem dX1_driftOf_12 : decode cX1_driftOf 12 = .ok (.isub, 1) := by decide +kernel
theorem dX1_driftOf_13 : decode cX1_driftOf 13 = .ok (.ireturn, 1) := by decide +kernel
theorem dX1_linesOn_0 : decode cX1_linesOn 0 = .ok (.iconst 0, 1) := by decide +kernel
theorem dX1_linesOn_1 : decode cX1_linesOn 1 = .ok (.istore_n 1, 1) := by decide +kernel
theorem dX1_linesOn_2 : decode cX1_linesOn 2 = .ok (.iconst 0, 1) := by decide +kernel
theorem dX1_linesOn_3 : decode cX1_linesOn 3 = .ok (.istore_n 2, 1) := by decide +kernel
theorem dX1_linesOn_4 : decode cX1_linesOn 4 = .ok (.iload_n 2, 1) := by decide +kernel
theorem dX1_linesOn_5 : decode cX1_linesOn 5 = .ok (.aload_n 0, 1) := by decide +kernel
theorem dX1_linesOn_6 : decode cX1_linesOn 6 = .ok (.getfield 37, 3) := by decide +kernel
theorem dX1_linesOn_9 : decode cX1_linesOn 9 = .ok (.if_icmp .ge 25, 3) := by decide +kernel
theorem dX1_linesOn_12 : decode cX1_linesOn 12 = .ok (.iload_n 1, 1) := by decide +kernel
theorem dX1_linesOn_13 : decode cX1_linesOn 13 = .ok (.aload_n 0, 1) := by decide +kernel
theorem dX1_linesOn_14 : decode cX1_linesOn 14 = .ok (.iload_n 2, 1) := by decide +kernel
theorem dX1_linesOn_15 : decode cX1_linesOn 15 = .ok (.invokevirtual 63, 3) := by decide +kernel
theorem dX1_linesOn_18 : decode cX1_linesOn 18 = .ok (.ifCond .eq 7, 3) := by decide +kernel
theorem dX1_linesOn_21 : decode cX1_linesOn 21 = .ok (.iconst 1, 1) := by decide +kernel
theorem dX1_linesOn_22 : decode cX1_linesOn 22 = .ok (.goto 4, 3) := by decide +kernel
theorem dX1_linesOn_25 : decode cX1_linesOn 25 = .ok (.iconst 0, 1) := by decide +kernel
theorem dX1_linesOn_26 : decode cX1_linesOn 26 = .ok (.iadd, 1) := by decide +kernel
theorem dX1_linesOn_27 : decode cX1_linesOn 27 = .ok (.istore_n 1, 1) := by decide +kernel
theorem dX1_linesOn_28 : decode cX1_linesOn 28 = .ok (.iinc 2 1, 3) := by decide +kernel
theorem dX1_linesOn_31 : decode cX1_linesOn 31 = .ok (.goto (-27), 3) := by decide +kernel
theorem dX1_linesOn_34 : decode cX1_linesOn 34 = .ok (.iload_n 1, 1) := by decide +kernel
theorem dX1_linesOn_35 : decode cX1_linesOn 35 = .ok (.ireturn, 1) := by decide +kernel
theorem dX1_allLines_0 : decode cX1_allLines 0 = .ok (.iconst 1, 1) := by decide +kernel
theorem dX1_allLines_1 : decode cX1_allLines 1 = .ok (.aload_n 0, 1) := by decide +kernel
theorem dX1_allLines_2 : decode cX1_allLines 2 = .ok (.getfield 37, 3) := by decide +kernel
theorem dX1_allLines_5 : decode cX1_allLines 5 = .ok (.ishl, 1) := by decide +kernel
theorem dX1_allLines_6 : decode cX1_allLines 6 = .ok (.iconst 1, 1) := by decide +kernel
theorem dX1_allLines_7 : decode cX1_allLines 7 = .ok (.isub, 1) := by decide +kernel
theorem dX1_allLines_8 : decode cX1_allLines 8 = .ok (.ireturn, 1) := by decide +kernel
theorem dX1_determinant_0 : decode cX1_determinant 0 = .ok (.aload_n 0, 1) := by decide +kernel
theorem dX1_determinant_1 : decode cX1_determinant 1 = .ok (.iconst 0, 1) := by decide +kernel
theorem dX1_determinant_2 : decode cX1_determinant 2 = .ok (.iconst 0, 1) := by decide +kernel
theorem dX1_determinant_3 : decode cX1_determinant 3 = .ok (.invokevirtual 67, 3) := by decide +kernel
theorem dX1_determinant_6 : decode cX1_determinant 6 = .ok (.istore_n 2, 1) := by decide +kernel
theorem dX1_determinant_7 : decode cX1_determinant 7 = .ok (.iload_n 2, 1) := by decide +kernel
theorem dX1_determinant_8 : decode cX1_determinant 8 = .ok (.aload_n 0, 1) := by decide +kernel
theorem dX1_determinant_9 : decode cX1_determinant 9 = .ok (.iconst 1, 1) := by decide +kernel
theorem dX1_determinant_10 : decode cX1_determinant 10 = .ok (.iconst 1, 1) := by decide +kernel
theorem dX1_determinant_11 : decode cX1_determinant 11 = .ok (.invokevirtual 67, 3) := by decide +kernel
theorem dX1_determinant_14 : decode cX1_determinant 14 = .ok (.imul, 1) := by decide +kernel
theorem dX1_determinant_15 : decode cX1_determinant 15 = .ok (.aload_n 0, 1) := by decide +kernel
theorem dX1_determinant_16 : decode cX1_determinant 16 = .ok (.iconst 0, 1) := by decide +kernel
theorem dX1_determinant_17 : decode cX1_determinant 17 = .ok (.iconst 1, 1) := by decide +kernel
theorem dX1_determinant_18 : decode cX1_determinant 18 = .ok (.invokevirtual 67, 3) := by decide +kernel
theorem dX1_determinant_21 : decode cX1_determinant 21 = .ok (.aload_n 0, 1) := by decide +kernel
theorem dX1_determinant_22 : decode cX1_determinant 22 = .ok (.iconst 0, 1) := by decide +kernel
theorem dX1_determinant_23 : decode cX1_determinant 23 = .ok (.iconst 1, 1) := by decide +kernel
theorem dX1_determinant_24 : decode cX1_determinant 24 = .ok (.invokevirtual 67, 3) := by decide +kernel
theorem dX1_determinant_27 : decode cX1_determinant 27 = .ok (.imul, 1) := by decide +kernel
theorem dX1_determinant_28 : decode cX1_determinant 28 = .ok (.isub, 1) := by decide +kernel
theorem dX1_determinant_29 : decode cX1_determinant 29 = .ok (.istore_n 3, 1) := by decide +kernel
theorem dX1_determinant_30 : decode cX1_determinant 30 = .ok (.iload_n 1, 1) := by decide +kernel
theorem dX1_determinant_31 : decode cX1_determinant 31 = .ok (.iconst 3, 1) := by decide +kernel
theorem dX1_determinant_32 : decode cX1_determinant 32 = .ok (.if_icmp .ge 14, 3) := by decide +kernel
theorem dX1_determinant_35 : decode cX1_determinant 35 = .ok (.iload_n 1, 1) := by decide +kernel
theorem dX1_determinant_36 : decode cX1_determinant 36 = .ok (.iconst 1, 1) := by decide +kernel
theorem dX1_determinant_37 : decode cX1_determinant 37 = .ok (.if_icmp .ne 7, 3) := by decide +kernel
theorem dX1_determinant_40 : decode cX1_determinant 40 = .ok (.iload_n 2, 1) := by decide +kernel
theorem dX1_determinant_41 : decode cX1_determinant 41 = .ok (.goto 4, 3) := by decide +kernel
theorem dX1_determinant_44 : decode cX1_determinant 44 = .ok (.iload_n 3, 1) := by decide +kernel
theorem dX1_determinant_45 : decode cX1_determinant 45 = .ok (.ireturn, 1) := by decide +kernel
theorem dX1_determinant_46 : decode cX1_determinant 46 = .ok (.aload_n 0, 1) := by decide +kernel
theorem dX1_determinant_47 : decode cX1_determinant 47 = .ok (.iconst 2, 1) := by decide +kernel
theorem dX1_determinant_48 : decode cX1_determinant 48 = .ok (.iconst 2, 1) := by decide +kernel
theorem dX1_determinant_49 : decode cX1_determinant 49 = .ok (.invokevirtual 67, 3) := by decide +kernel
theorem dX1_determinant_52 : decode cX1_determinant 52 = .ok (.iload_n 3, 1) := by decide +kernel
theorem dX1_determinant_53 : decode cX1_determinant 53 = .ok (.imul, 1) := by decide +kernel
theorem dX1_determinant_54 : decode cX1_determinant 54 = .ok (.aload_n 0, 1) := by decide +kernel
theorem dX1_determinant_55 : decode cX1_determinant 55 = .ok (.iconst 1, 1) := by decide +kernel
theorem dX1_determinant_56 : decode cX1_determinant 56 = .ok (.iconst 2, 1) := by decide +kernel
theorem dX1_determinant_57 : decode cX1_determinant 57 = .ok (.invokevirtual 67, 3) := by decide +kernel
theorem dX1_determinant_60 : decode cX1_determinant 60 = .ok (.iload_n 2, 1) := by decide +kernel
theorem dX1_determinant_61 : decode cX1_determinant 61 = .ok (.aload_n 0, 1) := by decide +kernel
theorem dX1_determinant_62 : decode cX1_determinant 62 = .ok (.iconst 1, 1) := by decide +kernel
theorem dX1_determinant_63 : decode cX1_determinant 63 = .ok (.iconst 2, 1) := by decide +kernel
theorem dX1_determinant_64 : decode cX1_determinant 64 = .ok (.invokevirtual 67, 3) := by decide +kernel
theorem dX1_determinant_67 : decode cX1_determinant 67 = .ok (.imul, 1) := by decide +kernel
theorem dX1_determinant_68 : decode cX1_determinant 68 = .ok (.aload_n 0, 1) := by decide +kernel
theorem dX1_determinant_69 : decode cX1_determinant 69 = .ok (.iconst 0, 1) := by decide +kernel
theorem dX1_determinant_70 : decode cX1_determinant 70 = .ok (.iconst 1, 1) := by decide +kernel
theorem dX1_determinant_71 : decode cX1_determinant 71 = .ok (.invokevirtual 67, 3) := by decide +kernel
theorem dX1_determinant_74 : decode cX1_determinant 74 = .ok (.aload_n 0, 1) := by decide +kernel
theorem dX1_determinant_75 : decode cX1_determinant 75 = .ok (.iconst 0, 1) := by decide +kernel
theorem dX1_determinant_76 : decode cX1_determinant 76 = .ok (.iconst 2, 1) := by decide +kernel
theorem dX1_determinant_77 : decode cX1_determinant 77 = .ok (.invokevirtual 67, 3) := by decide +kernel
theorem dX1_determinant_80 : decode cX1_determinant 80 = .ok (.imul, 1) := by decide +kernel
theorem dX1_determinant_81 : decode cX1_determinant 81 = .ok (.isub, 1) := by decide +kernel
theorem dX1_determinant_82 : decode cX1_determinant 82 = .ok (.imul, 1) := by decide +kernel
theorem dX1_determinant_83 : decode cX1_determinant 83 = .ok (.isub, 1) := by decide +kernel
theorem dX1_determinant_84 : decode cX1_determinant 84 = .ok (.aload_n 0, 1) := by decide +kernel
theorem dX1_determinant_85 : decode cX1_determinant 85 = .ok (.iconst 0, 1) := by decide +kernel
theorem dX1_determinant_86 : decode cX1_determinant 86 = .ok (.iconst 2, 1) := by decide +kernel
theorem dX1_determinant_87 : decode cX1_determinant 87 = .ok (.invokevirtual 67, 3) := by decide +kernel
theorem dX1_determinant_90 : decode cX1_determinant 90 = .ok (.aload_n 0, 1) := by decide +kernel
theorem dX1_determinant_91 : decode cX1_determinant 91 = .ok (.iconst 0, 1) := by decide +kernel
theorem dX1_determinant_92 : decode cX1_determinant 92 = .ok (.iconst 1, 1) := by decide +kernel
theorem dX1_determinant_93 : decode cX1_determinant 93 = .ok (.invokevirtual 67, 3) := by decide +kernel
theorem dX1_determinant_96 : decode cX1_determinant 96 = .ok (.aload_n 0, 1) := by decide +kernel
theorem dX1_determinant_97 : decode cX1_determinant 97 = .ok (.iconst 1, 1) := by decide +kernel
theorem dX1_determinant_98 : decode cX1_determinant 98 = .ok (.iconst 2, 1) := by decide +kernel
theorem dX1_determinant_99 : decode cX1_determinant 99 = .ok (.invokevirtual 67, 3) := by decide +kernel
theorem dX1_determinant_102 : decode cX1_determinant 102 = .ok (.imul, 1) := by decide +kernel
theorem dX1_determinant_103 : decode cX1_determinant 103 = .ok (.aload_n 0, 1) := by decide +kernel
theorem dX1_determinant_104 : decode cX1_determinant 104 = .ok (.iconst 0, 1) := by decide +kernel
theorem dX1_determinant_105 : decode cX1_determinant 105 = .ok (.iconst 2, 1) := by decide +kernel
theorem dX1_determinant_106 : decode cX1_determinant 106 = .ok (.invokevirtual 67, 3) := by decide +kernel
theorem dX1_determinant_109 : decode cX1_determinant 109 = .ok (.aload_n 0, 1) := by decide +kernel
theorem dX1_determinant_110 : decode cX1_determinant 110 = .ok (.iconst 1, 1) := by decide +kernel
theorem dX1_determinant_111 : decode cX1_determinant 111 = .ok (.iconst 1, 1) := by decide +kernel
theorem dX1_determinant_112 : decode cX1_determinant 112 = .ok (.invokevirtual 67, 3) := by decide +kernel
theorem dX1_determinant_115 : decode cX1_determinant 115 = .ok (.imul, 1) := by decide +kernel
theorem dX1_determinant_116 : decode cX1_determinant 116 = .ok (.isub, 1) := by decide +kernel
theorem dX1_determinant_117 : decode cX1_determinant 117 = .ok (.imul, 1) := by decide +kernel
theorem dX1_determinant_118 : decode cX1_determinant 118 = .ok (.iadd, 1) := by decide +kernel
theorem dX1_determinant_119 : decode cX1_determinant 119 = .ok (.ireturn, 1) := by decide +kernel
theorem dX1_hasLeast_0 : decode cX1_hasLeast 0 = .ok (.iconst 1, 1) := by decide +kernel
theorem dX1_hasLeast_1 : decode cX1_hasLeast 1 = .ok (.istore_n 1, 1) := by decide +kernel
theorem dX1_hasLeast_2 : decode cX1_hasLeast 2 = .ok (.iload_n 1, 1) := by decide +kernel
theorem dX1_hasLeast_3 : decode cX1_hasLeast 3 = .ok (.aload_n 0, 1) := by decide +kernel
theorem dX1_hasLeast_4 : decode cX1_hasLeast 4 = .ok (.getfield 9, 3) := by decide +kernel
theorem dX1_hasLeast_7 : decode cX1_hasLeast 7 = .ok (.if_icmp .gt 19, 3) := by decide +kernel
theorem dX1_hasLeast_10 : decode cX1_hasLeast 10 = .ok (.aload_n 0, 1) := by decide +kernel
theorem dX1_hasLeast_11 : decode cX1_hasLeast 11 = .ok (.iload_n 1, 1) := by decide +kernel
theorem dX1_hasLeast_12 : decode cX1_hasLeast 12 = .ok (.invokevirtual 70, 3) := by decide +kernel
theorem dX1_hasLeast_15 : decode cX1_hasLeast 15 = .ok (.ifCond .gt 5, 3) := by decide +kernel
theorem dX1_hasLeast_18 : decode cX1_hasLeast 18 = .ok (.iconst 0, 1) := by decide +kernel
theorem dX1_hasLeast_19 : decode cX1_hasLeast 19 = .ok (.ireturn, 1) := by decide +kernel
theorem dX1_hasLeast_20 : decode cX1_hasLeast 20 = .ok (.iinc 1 1, 3) := by decide +kernel
theorem dX1_hasLeast_23 : decode cX1_hasLeast 23 = .ok (.goto (-21), 3) := by decide +kernel
theorem dX1_hasLeast_26 : decode cX1_hasLeast 26 = .ok (.iconst 1, 1) := by decide +kernel
theorem dX1_hasLeast_27 : decode cX1_hasLeast 27 = .ok (.ireturn, 1) := by decide +kernel
theorem dX1_squareOfPushes_0 : decode cX1_squareOfPushes 0 = .ok (.lconst 0, 1) := by decide +kernel
theorem dX1_squareOfPushes_1 : decode cX1_squareOfPushes 1 = .ok (.lstore_n 1, 1) := by decide +kernel
theorem dX1_squareOfPushes_2 : decode cX1_squareOfPushes 2 = .ok (.iconst 0, 1) := by decide +kernel
theorem dX1_squareOfPushes_3 : decode cX1_squareOfPushes 3 = .ok (.istore_n 3, 1) := by decide +kernel
theorem dX1_squareOfPushes_4 : decode cX1_squareOfPushes 4 = .ok (.iload_n 3, 1) := by decide +kernel
theorem dX1_squareOfPushes_5 : decode cX1_squareOfPushes 5 = .ok (.aload_n 0, 1) := by decide +kernel
theorem dX1_squareOfPushes_6 : decode cX1_squareOfPushes 6 = .ok (.getfield 9, 3) := by decide +kernel
theorem dX1_squareOfPushes_9 : decode cX1_squareOfPushes 9 = .ok (.if_icmp .ge 26, 3) := by decide +kernel
theorem dX1_squareOfPushes_12 : decode cX1_squareOfPushes 12 = .ok (.lload_n 1, 1) := by decide +kernel
theorem dX1_squareOfPushes_13 : decode cX1_squareOfPushes 13 = .ok (.aload_n 0, 1) := by decide +kernel
theorem dX1_squareOfPushes_14 : decode cX1_squareOfPushes 14 = .ok (.getfield 19, 3) := by decide +kernel
theorem dX1_squareOfPushes_17 : decode cX1_squareOfPushes 17 = .ok (.iload_n 3, 1) := by decide +kernel
theorem dX1_squareOfPushes_18 : decode cX1_squareOfPushes 18 = .ok (.iaload, 1) := by decide +kernel
theorem dX1_squareOfPushes_19 : decode cX1_squareOfPushes 19 = .ok (.aload_n 0, 1) := by decide +kernel
theorem dX1_squareOfPushes_20 : decode cX1_squareOfPushes 20 = .ok (.getfield 19, 3) := by decide +kernel
theorem dX1_squareOfPushes_23 : decode cX1_squareOfPushes 23 = .ok (.iload_n 3, 1) := by decide +kernel
theorem dX1_squareOfPushes_24 : decode cX1_squareOfPushes 24 = .ok (.iaload, 1) := by decide +kernel
theorem dX1_squareOfPushes_25 : decode cX1_squareOfPushes 25 = .ok (.imul, 1) := by decide +kernel
theorem dX1_squareOfPushes_26 : decode cX1_squareOfPushes 26 = .ok (.i2l, 1) := by decide +kernel
theorem dX1_squareOfPushes_27 : decode cX1_squareOfPushes 27 = .ok (.ladd, 1) := by decide +kernel
theorem dX1_squareOfPushes_28 : decode cX1_squareOfPushes 28 = .ok (.lstore_n 1, 1) := by decide +kernel
theorem dX1_squareOfPushes_29 : decode cX1_squareOfPushes 29 = .ok (.iinc 3 1, 3) := by decide +kernel
theorem dX1_squareOfPushes_32 : decode cX1_squareOfPushes 32 = .ok (.goto (-28), 3) := by decide +kernel
theorem dX1_squareOfPushes_35 : decode cX1_squareOfPushes 35 = .ok (.lload_n 1, 1) := by decide +kernel
theorem dX1_squareOfPushes_36 : decode cX1_squareOfPushes 36 = .ok (.lreturn, 1) := by decide +kernel
theorem dX1_leftOf_0 : decode cX1_leftOf 0 = .ok (.iload_n 1, 1) := by decide +kernel
theorem dX1_leftOf_1 : decode cX1_leftOf 1 = .ok (.i2l, 1) := by decide +kernel
theorem dX1_leftOf_2 : decode cX1_leftOf 2 = .ok (.aload_n 3, 1) := by decide +kernel
theorem dX1_leftOf_3 : decode cX1_leftOf 3 = .ok (.getfield 74, 3) := by decide +kernel
theorem dX1_leftOf_6 : decode cX1_leftOf 6 = .ok (.lmul, 1) := by decide +kernel
theorem dX1_leftOf_7 : decode cX1_leftOf 7 = .ok (.lstore 4, 2) := by decide +kernel
theorem dX1_leftOf_9 : decode cX1_leftOf 9 = .ok (.iconst 0, 1) := by decide +kernel
theorem dX1_leftOf_10 : decode cX1_leftOf 10 = .ok (.istore 6, 2) := by decide +kernel
theorem dX1_leftOf_12 : decode cX1_leftOf 12 = .ok (.iload 6, 2) := by decide +kernel
theorem dX1_leftOf_14 : decode cX1_leftOf 14 = .ok (.aload_n 0, 1) := by decide +kernel
theorem dX1_leftOf_15 : decode cX1_leftOf 15 = .ok (.getfield 9, 3) := by decide +kernel
theorem dX1_leftOf_18 : decode cX1_leftOf 18 = .ok (.if_icmp .ge 30, 3) := by decide +kernel
theorem dX1_leftOf_21 : decode cX1_leftOf 21 = .ok (.lload 4, 2) := by decide +kernel
theorem dX1_leftOf_23 : decode cX1_leftOf 23 = .ok (.aload_n 0, 1) := by decide +kernel
theorem dX1_leftOf_24 : decode cX1_leftOf 24 = .ok (.iload_n 2, 1) := by decide +kernel
theorem dX1_leftOf_25 : decode cX1_leftOf 25 = .ok (.iload 6, 2) := by decide +kernel
theorem dX1_leftOf_27 : decode cX1_leftOf 27 = .ok (.invokevirtual 80, 3) := by decide +kernel
theorem dX1_leftOf_30 : decode cX1_leftOf 30 = .ok (.i2l, 1) := by decide +kernel
theorem dX1_leftOf_31 : decode cX1_leftOf 31 = .ok (.aload_n 3, 1) := by decide +kernel
theorem dX1_leftOf_32 : decode cX1_leftOf 32 = .ok (.getfield 83, 3) := by decide +kernel
theorem dX1_leftOf_35 : decode cX1_leftOf 35 = .ok (.iload 6, 2) := by decide +kernel
theorem dX1_leftOf_37 : decode cX1_leftOf 37 = .ok (.laload, 1) := by decide +kernel
theorem dX1_leftOf_38 : decode cX1_leftOf 38 = .ok (.lmul, 1) := by decide +kernel
theorem dX1_leftOf_39 : decode cX1_leftOf 39 = .ok (.lsub, 1) := by decide +kernel
theorem dX1_leftOf_40 : decode cX1_leftOf 40 = .ok (.lstore 4, 2) := by decide +kernel
theorem dX1_leftOf_42 : decode cX1_leftOf 42 = .ok (.iinc 6 1, 3) := by decide +kernel
theorem dX1_leftOf_45 : decode cX1_leftOf 45 = .ok (.goto (-33), 3) := by decide +kernel
theorem dX1_leftOf_48 : decode cX1_leftOf 48 = .ok (.lload 4, 2) := by decide +kernel
theorem dX1_leftOf_50 : decode cX1_leftOf 50 = .ok (.lreturn, 1) := by decide +kernel
theorem dX1_isHeldBy_0 : decode cX1_isHeldBy 0 = .ok (.aload_n 0, 1) := by decide +kernel
theorem dX1_isHeldBy_1 : decode cX1_isHeldBy 1 = .ok (.iload_n 1, 1) := by decide +kernel
theorem dX1_isHeldBy_2 : decode cX1_isHeldBy 2 = .ok (.invokevirtual 63, 3) := by decide +kernel
theorem dX1_isHeldBy_5 : decode cX1_isHeldBy 5 = .ok (.ifCond .eq 17, 3) := by decide +kernel
theorem dX1_isHeldBy_8 : decode cX1_isHeldBy 8 = .ok (.lload_n 2, 1) := by decide +kernel
theorem dX1_isHeldBy_9 : decode cX1_isHeldBy 9 = .ok (.lconst 0, 1) := by decide +kernel
theorem dX1_isHeldBy_10 : decode cX1_isHeldBy 10 = .ok (.lcmp, 1) := by decide +kernel
theorem dX1_isHeldBy_11 : decode cX1_isHeldBy 11 = .ok (.ifCond .ne 7, 3) := by decide +kernel
theorem dX1_isHeldBy_14 : decode cX1_isHeldBy 14 = .ok (.iconst 1, 1) := by decide +kernel
theorem dX1_isHeldBy_15 : decode cX1_isHeldBy 15 = .ok (.goto 18, 3) := by decide +kernel
theorem dX1_isHeldBy_18 : decode cX1_isHeldBy 18 = .ok (.iconst 0, 1) := by decide +kernel
theorem dX1_isHeldBy_19 : decode cX1_isHeldBy 19 = .ok (.goto 14, 3) := by decide +kernel
theorem dX1_isHeldBy_22 : decode cX1_isHeldBy 22 = .ok (.lload_n 2, 1) := by decide +kernel
theorem dX1_isHeldBy_23 : decode cX1_isHeldBy 23 = .ok (.lconst 0, 1) := by decide +kernel
theorem dX1_isHeldBy_24 : decode cX1_isHeldBy 24 = .ok (.lcmp, 1) := by decide +kernel
theorem dX1_isHeldBy_25 : decode cX1_isHeldBy 25 = .ok (.ifCond .lt 7, 3) := by decide +kernel
theorem dX1_isHeldBy_28 : decode cX1_isHeldBy 28 = .ok (.iconst 1, 1) := by decide +kernel
theorem dX1_isHeldBy_29 : decode cX1_isHeldBy 29 = .ok (.goto 4, 3) := by decide +kernel
theorem dX1_isHeldBy_32 : decode cX1_isHeldBy 32 = .ok (.iconst 0, 1) := by decide +kernel
theorem dX1_isHeldBy_33 : decode cX1_isHeldBy 33 = .ok (.ireturn, 1) := by decide +kernel
theorem dX2_init_0 : decode cX2_init 0 = .ok (.aload_n 0, 1) := by decide +kernel
theorem dX2_init_1 : decode cX2_init 1 = .ok (.invokespecial 3, 3) := by decide +kernel
theorem dX2_init_4 : decode cX2_init 4 = .ok (.aload_n 0, 1) := by decide +kernel
theorem dX2_init_5 : decode cX2_init 5 = .ok (.new 9, 3) := by decide +kernel
theorem dX2_init_8 : decode cX2_init 8 = .ok (.dup, 1) := by decide +kernel
theorem dX2_init_9 : decode cX2_init 9 = .ok (.invokespecial 11, 3) := by decide +kernel
theorem dX2_init_12 : decode cX2_init 12 = .ok (.putfield 12, 3) := by decide +kernel
theorem dX2_init_15 : decode cX2_init 15 = .ok (.aload_n 0, 1) := by decide +kernel
theorem dX2_init_16 : decode cX2_init 16 = .ok (.aload_n 1, 1) := by decide +kernel
theorem dX2_init_17 : decode cX2_init 17 = .ok (.putfield 18, 3) := by decide +kernel
theorem dX2_init_20 : decode cX2_init 20 = .ok (.return_, 1) := by decide +kernel
theorem dX2_length_0 : decode cX2_length 0 = .ok (.aload_n 0, 1) := by decide +kernel
theorem dX2_length_1 : decode cX2_length 1 = .ok (.getfield 18, 3) := by decide +kernel
theorem dX2_length_4 : decode cX2_length 4 = .ok (.getfield 22, 3) := by decide +kernel
theorem dX2_length_7 : decode cX2_length 7 = .ok (.aload_n 0, 1) := by decide +kernel
theorem dX2_length_8 : decode cX2_length 8 = .ok (.getfield 18, 3) := by decide +kernel
theorem dX2_length_11 : decode cX2_length 11 = .ok (.getfield 28, 3) := by decide +kernel
theorem dX2_length_14 : decode cX2_length 14 = .ok (.iadd, 1) := by decide +kernel
theorem dX2_length_15 : decode cX2_length 15 = .ok (.iconst 1, 1) := by decide +kernel
theorem dX2_length_16 : decode cX2_length 16 = .ok (.iadd, 1) := by decide +kernel
theorem dX2_length_17 : decode cX2_length 17 = .ok (.ireturn, 1) := by decide +kernel
theorem dX2_tell_0 : decode cX2_tell 0 = .ok (.aload_n 0, 1) := by decide +kernel
theorem dX2_tell_1 : decode cX2_tell 1 = .ok (.getfield 18, 3) := by decide +kernel
theorem dX2_tell_4 : decode cX2_tell 4 = .ok (.getfield 22, 3) := by decide +kernel
theorem dX2_tell_7 : decode cX2_tell 7 = .ok (.istore 4, 2) := by decide +kernel
theorem dX2_tell_9 : decode cX2_tell 9 = .ok (.aload_n 0, 1) := by decide +kernel
theorem dX2_tell_10 : decode cX2_tell 10 = .ok (.aload_n 1, 1) := by decide +kernel
theorem dX2_tell_11 : decode cX2_tell 11 = .ok (.invokevirtual 31, 3) := by decide +kernel
theorem dX2_tell_14 : decode cX2_tell 14 = .ok (.lstore 5, 2) := by decide +kernel
theorem dX2_tell_16 : decode cX2_tell 16 = .ok (.aload_n 2, 1) := by decide +kernel
theorem dX2_tell_17 : decode cX2_tell 17 = .ok (.iload_n 3, 1) := by decide +kernel
theorem dX2_tell_18 : decode cX2_tell 18 = .ok (.iconst 1, 1) := by decide +kernel
theorem dX2_tell_19 : decode cX2_tell 19 = .ok (.aload_n 0, 1) := by decide +kernel
theorem dX2_tell_20 : decode cX2_tell 20 = .ok (.invokevirtual 35, 3) := by decide +kernel
theorem dX2_tell_23 : decode cX2_tell 23 = .ok (.invokevirtual 39, 3) := by decide +kernel
theorem dX2_tell_26 : decode cX2_tell 26 = .ok (.iconst 0, 1) := by decide +kernel
theorem dX2_tell_27 : decode cX2_tell 27 = .ok (.istore 7, 2) := by decide +kernel
theorem dX2_tell_29 : decode cX2_tell 29 = .ok (.iload 7, 2) := by decide +kernel
theorem dX2_tell_31 : decode cX2_tell 31 = .ok (.iload 4, 2) := by decide +kernel
theorem dX2_tell_33 : decode cX2_tell 33 = .ok (.if_icmp .ge 26, 3) := by decide +kernel
theorem dX2_tell_36 : decode cX2_tell 36 = .ok (.aload_n 2, 1) := by decide +kernel
theorem dX2_tell_37 : decode cX2_tell 37 = .ok (.iload_n 3, 1) := by decide +kernel
theorem dX2_tell_38 : decode cX2_tell 38 = .ok (.iload 7, 2) := by decide +kernel
theorem dX2_tell_40 : decode cX2_tell 40 = .ok (.aload_n 1, 1) := by decide +kernel
theorem dX2_tell_41 : decode cX2_tell 41 = .ok (.getfield 45, 3) := by decide +kernel
theorem dX2_tell_44 : decode cX2_tell 44 = .ok (.iload 7, 2) := by decide +kernel
theorem dX2_tell_46 : decode cX2_tell 46 = .ok (.laload, 1) := by decide +kernel
theorem dX2_tell_47 : decode cX2_tell 47 = .ok (.lload 5, 2) := by decide +kernel
theorem dX2_tell_49 : decode cX2_tell 49 = .ok (.ldiv, 1) := by decide +kernel
theorem dX2_tell_50 : decode cX2_tell 50 = .ok (.invokevirtual 49, 3) := by decide +kernel
theorem dX2_tell_53 : decode cX2_tell 53 = .ok (.iinc 7 1, 3) := by decide +kernel
theorem dX2_tell_56 : decode cX2_tell 56 = .ok (.goto (-27), 3) := by decide +kernel
theorem dX2_tell_59 : decode cX2_tell 59 = .ok (.iconst 0, 1) := by decide +kernel
theorem dX2_tell_60 : decode cX2_tell 60 = .ok (.istore 7, 2) := by decide +kernel
theorem dX2_tell_62 : decode cX2_tell 62 = .ok (.iload 7, 2) := by decide +kernel
theorem dX2_tell_64 : decode cX2_tell 64 = .ok (.aload_n 0, 1) := by decide +kernel
theorem dX2_tell_65 : decode cX2_tell 65 = .ok (.getfield 18, 3) := by decide +kernel
theorem dX2_tell_68 : decode cX2_tell 68 = .ok (.getfield 28, 3) := by decide +kernel
theorem dX2_tell_71 : decode cX2_tell 71 = .ok (.if_icmp .ge 29, 3) := by decide +kernel
theorem dX2_tell_74 : decode cX2_tell 74 = .ok (.aload_n 2, 1) := by decide +kernel
theorem dX2_tell_75 : decode cX2_tell 75 = .ok (.iload_n 3, 1) := by decide +kernel
theorem dX2_tell_76 : decode cX2_tell 76 = .ok (.iload 4, 2) := by decide +kernel
theorem dX2_tell_78 : decode cX2_tell 78 = .ok (.iload 7, 2) := by decide +kernel
theorem dX2_tell_80 : decode cX2_tell 80 = .ok (.iadd, 1) := by decide +kernel
theorem dX2_tell_81 : decode cX2_tell 81 = .ok (.aload_n 1, 1) := by decide +kernel
theorem dX2_tell_82 : decode cX2_tell 82 = .ok (.getfield 53, 3) := by decide +kernel
theorem dX2_tell_85 : decode cX2_tell 85 = .ok (.iload 7, 2) := by decide +kernel
theorem dX2_tell_87 : decode cX2_tell 87 = .ok (.laload, 1) := by decide +kernel
theorem dX2_tell_88 : decode cX2_tell 88 = .ok (.lload 5, 2) := by decide +kernel
theorem dX2_tell_90 : decode cX2_tell 90 = .ok (.ldiv, 1) := by decide +kernel
theorem dX2_tell_91 : decode cX2_tell 91 = .ok (.invokevirtual 49, 3) := by decide +kernel
theorem dX2_tell_94 : decode cX2_tell 94 = .ok (.iinc 7 1, 3) := by decide +kernel
theorem dX2_tell_97 : decode cX2_tell 97 = .ok (.goto (-35), 3) := by decide +kernel
theorem dX2_tell_100 : decode cX2_tell 100 = .ok (.aload_n 2, 1) := by decide +kernel
theorem dX2_tell_101 : decode cX2_tell 101 = .ok (.iload_n 3, 1) := by decide +kernel
theorem dX2_tell_102 : decode cX2_tell 102 = .ok (.iload 4, 2) := by decide +kernel
theorem dX2_tell_104 : decode cX2_tell 104 = .ok (.aload_n 0, 1) := by decide +kernel
theorem dX2_tell_105 : decode cX2_tell 105 = .ok (.getfield 18, 3) := by decide +kernel
theorem dX2_tell_108 : decode cX2_tell 108 = .ok (.getfield 28, 3) := by decide +kernel
theorem dX2_tell_111 : decode cX2_tell 111 = .ok (.iadd, 1) := by decide +kernel
theorem dX2_tell_112 : decode cX2_tell 112 = .ok (.aload_n 1, 1) := by decide +kernel
theorem dX2_tell_113 : decode cX2_tell 113 = .ok (.getfield 56, 3) := by decide +kernel
theorem dX2_tell_116 : decode cX2_tell 116 = .ok (.lload 5, 2) := by decide +kernel
theorem dX2_tell_118 : decode cX2_tell 118 = .ok (.ldiv, 1) := by decide +kernel
theorem dX2_tell_119 : decode cX2_tell 119 = .ok (.invokevirtual 49, 3) := by decide +kernel
theorem dX2_tell_122 : decode cX2_tell 122 = .ok (.return_, 1) := by decide +kernel
theorem dX2_sharedBy_0 : decode cX2_sharedBy 0 = .ok (.aload_n 1, 1) := by decide +kernel
theorem dX2_sharedBy_1 : decode cX2_sharedBy 1 = .ok (.getfield 56, 3) := by decide +kernel
theorem dX2_sharedBy_4 : decode cX2_sharedBy 4 = .ok (.lstore_n 2, 1) := by decide +kernel
theorem dX2_sharedBy_5 : decode cX2_sharedBy 5 = .ok (.iconst 0, 1) := by decide +kernel
theorem dX2_sharedBy_6 : decode cX2_sharedBy 6 = .ok (.istore 4, 2) := by decide +kernel
theorem dX2_sharedBy_8 : decode cX2_sharedBy 8 = .ok (.iload 4, 2) := by decide +kernel
theorem dX2_sharedBy_10 : decode cX2_sharedBy 10 = .ok (.aload_n 0, 1) := by decide +kernel
theorem dX2_sharedBy_11 : decode cX2_sharedBy 11 = .ok (.getfield 18, 3) := by decide +kernel
theorem dX2_sharedBy_14 : decode cX2_sharedBy 14 = .ok (.getfield 22, 3) := by decide +kernel
theorem dX2_sharedBy_17 : decode cX2_sharedBy 17 = .ok (.if_icmp .ge 21, 3) := by decide +kernel
theorem dX2_sharedBy_20 : decode cX2_sharedBy 20 = .ok (.lload_n 2, 1) := by decide +kernel
theorem dX2_sharedBy_21 : decode cX2_sharedBy 21 = .ok (.aload_n 1, 1) := by decide +kernel
theorem dX2_sharedBy_22 : decode cX2_sharedBy 22 = .ok (.getfield 45, 3) := by decide +kernel
theorem dX2_sharedBy_25 : decode cX2_sharedBy 25 = .ok (.iload 4, 2) := by decide +kernel
theorem dX2_sharedBy_27 : decode cX2_sharedBy 27 = .ok (.laload, 1) := by decide +kernel
theorem dX2_sharedBy_28 : decode cX2_sharedBy 28 = .ok (.invokestatic 60, 3) := by decide +kernel
theorem dX2_sharedBy_31 : decode cX2_sharedBy 31 = .ok (.lstore_n 2, 1) := by decide +kernel
theorem dX2_sharedBy_32 : decode cX2_sharedBy 32 = .ok (.iinc 4 1, 3) := by decide +kernel
theorem dX2_sharedBy_35 : decode cX2_sharedBy 35 = .ok (.goto (-27), 3) := by decide +kernel
theorem dX2_sharedBy_38 : decode cX2_sharedBy 38 = .ok (.iconst 0, 1) := by decide +kernel
theorem dX2_sharedBy_39 : decode cX2_sharedBy 39 = .ok (.istore 4, 2) := by decide +kernel
theorem dX2_sharedBy_41 : decode cX2_sharedBy 41 = .ok (.iload 4, 2) := by decide +kernel
theorem dX2_sharedBy_43 : decode cX2_sharedBy 43 = .ok (.aload_n 0, 1) := by decide +kernel
theorem dX2_sharedBy_44 : decode cX2_sharedBy 44 = .ok (.getfield 18, 3) := by decide +kernel
theorem dX2_sharedBy_47 : decode cX2_sharedBy 47 = .ok (.getfield 28, 3) := by decide +kernel
theorem dX2_sharedBy_50 : decode cX2_sharedBy 50 = .ok (.if_icmp .ge 21, 3) := by decide +kernel
theorem dX2_sharedBy_53 : decode cX2_sharedBy 53 = .ok (.lload_n 2, 1) := by decide +kernel
theorem dX2_sharedBy_54 : decode cX2_sharedBy 54 = .ok (.aload_n 1, 1) := by decide +kernel
theorem dX2_sharedBy_55 : decode cX2_sharedBy 55 = .ok (.getfield 53, 3) := by decide +kernel
theorem dX2_sharedBy_58 : decode cX2_sharedBy 58 = .ok (.iload 4, 2) := by decide +kernel
theorem dX2_sharedBy_60 : decode cX2_sharedBy 60 = .ok (.laload, 1) := by decide +kernel
theorem dX2_sharedBy_61 : decode cX2_sharedBy 61 = .ok (.invokestatic 60, 3) := by decide +kernel
theorem dX2_sharedBy_64 : decode cX2_sharedBy 64 = .ok (.lstore_n 2, 1) := by decide +kernel
theorem dX2_sharedBy_65 : decode cX2_sharedBy 65 = .ok (.iinc 4 1, 3) := by decide +kernel
theorem dX2_sharedBy_68 : decode cX2_sharedBy 68 = .ok (.goto (-27), 3) := by decide +kernel
theorem dX2_sharedBy_71 : decode cX2_sharedBy 71 = .ok (.lload_n 2, 1) := by decide +kernel
theorem dX2_sharedBy_72 : decode cX2_sharedBy 72 = .ok (.lconst 0, 1) := by decide +kernel
theorem dX2_sharedBy_73 : decode cX2_sharedBy 73 = .ok (.lcmp, 1) := by decide +kernel
theorem dX2_sharedBy_74 : decode cX2_sharedBy 74 = .ok (.ifCond .ne 7, 3) := by decide +kernel
theorem dX2_sharedBy_77 : decode cX2_sharedBy 77 = .ok (.lconst 1, 1) := by decide +kernel
theorem dX2_sharedBy_78 : decode cX2_sharedBy 78 = .ok (.goto 4, 3) := by decide +kernel
theorem dX2_sharedBy_81 : decode cX2_sharedBy 81 = .ok (.lload_n 2, 1) := by decide +kernel
theorem dX2_sharedBy_82 : decode cX2_sharedBy 82 = .ok (.lreturn, 1) := by decide +kernel
theorem dX2_take_0 : decode cX2_take 0 = .ok (.aload_n 0, 1) := by decide +kernel
theorem dX2_take_1 : decode cX2_take 1 = .ok (.getfield 18, 3) := by decide +kernel
theorem dX2_take_4 : decode cX2_take 4 = .ok (.getfield 22, 3) := by decide +kernel
theorem dX2_take_7 : decode cX2_take 7 = .ok (.istore_n 3, 1) := by decide +kernel
theorem dX2_take_8 : decode cX2_take 8 = .ok (.iconst 0, 1) := by decide +kernel
theorem dX2_take_9 : decode cX2_take 9 = .ok (.istore 4, 2) := by decide +kernel
theorem dX2_take_11 : decode cX2_take 11 = .ok (.iload 4, 2) := by decide +kernel
theorem dX2_take_13 : decode cX2_take 13 = .ok (.iload_n 3, 1) := by decide +kernel
theorem dX2_take_14 : decode cX2_take 14 = .ok (.if_icmp .ge 26, 3) := by decide +kernel
theorem dX2_take_17 : decode cX2_take 17 = .ok (.aload_n 0, 1) := by decide +kernel
theorem dX2_take_18 : decode cX2_take 18 = .ok (.getfield 12, 3) := by decide +kernel
theorem dX2_take_21 : decode cX2_take 21 = .ok (.getfield 45, 3) := by decide +kernel
theorem dX2_take_24 : decode cX2_take 24 = .ok (.iload 4, 2) := by decide +kernel
theorem dX2_take_26 : decode cX2_take 26 = .ok (.aload_n 1, 1) := by decide +kernel
theorem dX2_take_27 : decode cX2_take 27 = .ok (.iload_n 2, 1) := by decide +kernel
theorem dX2_take_28 : decode cX2_take 28 = .ok (.iload 4, 2) := by decide +kernel
theorem dX2_take_30 : decode cX2_take 30 = .ok (.invokevirtual 66, 3) := by decide +kernel
theorem dX2_take_33 : decode cX2_take 33 = .ok (.lastore, 1) := by decide +kernel
theorem dX2_take_34 : decode cX2_take 34 = .ok (.iinc 4 1, 3) := by decide +kernel
theorem dX2_take_37 : decode cX2_take 37 = .ok (.goto (-26), 3) := by decide +kernel
theorem dX2_take_40 : decode cX2_take 40 = .ok (.iconst 0, 1) := by decide +kernel
theorem dX2_take_41 : decode cX2_take 41 = .ok (.istore 4, 2) := by decide +kernel
theorem dX2_take_43 : decode cX2_take 43 = .ok (.iload 4, 2) := by decide +kernel
theorem dX2_take_45 : decode cX2_take 45 = .ok (.aload_n 0, 1) := by decide +kernel
theorem dX2_take_46 : decode cX2_take 46 = .ok (.getfield 18, 3) := by decide +kernel
theorem dX2_take_49 : decode cX2_take 49 = .ok (.getfield 28, 3) := by decide +kernel
theorem dX2_take_52 : decode cX2_take 52 = .ok (.if_icmp .ge 28, 3) := by decide +kernel
theorem dX2_take_55 : decode cX2_take 55 = .ok (.aload_n 0, 1) := by decide +kernel
theorem dX2_take_56 : decode cX2_take 56 = .ok (.getfield 12, 3) := by decide +kernel
theorem dX2_take_59 : decode cX2_take 59 = .ok (.getfield 53, 3) := by decide +kernel
theorem dX2_take_62 : decode cX2_take 62 = .ok (.iload 4, 2) := by decide +kernel
theorem dX2_take_64 : decode cX2_take 64 = .ok (.aload_n 1, 1) := by decide +kernel
theorem dX2_take_65 : decode cX2_take 65 = .ok (.iload_n 2, 1) := by decide +kernel
theorem dX2_take_66 : decode cX2_take 66 = .ok (.iload_n 3, 1) := by decide +kernel
theorem dX2_take_67 : decode cX2_take 67 = .ok (.iload 4, 2) := by decide +kernel
theorem dX2_take_69 : decode cX2_take 69 = .ok (.iadd, 1) := by decide +kernel
theorem dX2_take_70 : decode cX2_take 70 = .ok (.invokevirtual 66, 3) := by decide +kernel
theorem dX2_take_73 : decode cX2_take 73 = .ok (.lastore, 1) := by decide +kernel
theorem dX2_take_74 : decode cX2_take 74 = .ok (.iinc 4 1, 3) := by decide +kernel
theorem dX2_take_77 : decode cX2_take 77 = .ok (.goto (-34), 3) := by decide +kernel
theorem dX2_take_80 : decode cX2_take 80 = .ok (.aload_n 0, 1) := by decide +kernel
theorem dX2_take_81 : decode cX2_take 81 = .ok (.getfield 12, 3) := by decide +kernel
theorem dX2_take_84 : decode cX2_take 84 = .ok (.aload_n 1, 1) := by decide +kernel
theorem dX2_take_85 : decode cX2_take 85 = .ok (.iload_n 2, 1) := by decide +kernel
theorem dX2_take_86 : decode cX2_take 86 = .ok (.iload_n 3, 1) := by decide +kernel
theorem dX2_take_87 : decode cX2_take 87 = .ok (.aload_n 0, 1) := by decide +kernel
theorem dX2_take_88 : decode cX2_take 88 = .ok (.getfield 18, 3) := by decide +kernel
theorem dX2_take_91 : decode cX2_take 91 = .ok (.getfield 28, 3) := by decide +kernel
theorem dX2_take_94 : decode cX2_take 94 = .ok (.iadd, 1) := by decide +kernel
theorem dX2_take_95 : decode cX2_take 95 = .ok (.invokevirtual 66, 3) := by decide +kernel
theorem dX2_take_98 : decode cX2_take 98 = .ok (.putfield 56, 3) := by decide +kernel
theorem dX2_take_101 : decode cX2_take 101 = .ok (.return_, 1) := by decide +kernel
theorem dX2_firstWrong_0 : decode cX2_firstWrong 0 = .ok (.aload_n 0, 1) := by decide +kernel
theorem dX2_firstWrong_1 : decode cX2_firstWrong 1 = .ok (.getfield 12, 3) := by decide +kernel
theorem dX2_firstWrong_4 : decode cX2_firstWrong 4 = .ok (.getfield 56, 3) := by decide +kernel
theorem dX2_firstWrong_7 : decode cX2_firstWrong 7 = .ok (.lconst 1, 1) := by decide +kernel
theorem dX2_firstWrong_8 : decode cX2_firstWrong 8 = .ok (.lcmp, 1) := by decide +kernel
theorem dX2_firstWrong_9 : decode cX2_firstWrong 9 = .ok (.ifCond .ge 5, 3) := by decide +kernel
theorem dX2_firstWrong_12 : decode cX2_firstWrong 12 = .ok (.iconst 1, 1) := by decide +kernel
theorem dX2_firstWrong_13 : decode cX2_firstWrong 13 = .ok (.ireturn, 1) := by decide +kernel
theorem dX2_firstWrong_14 : decode cX2_firstWrong 14 = .ok (.aload_n 0, 1) := by decide +kernel
theorem dX2_firstWrong_15 : decode cX2_firstWrong 15 = .ok (.invokevirtual 70, 3) := by decide +kernel
theorem dX2_firstWrong_18 : decode cX2_firstWrong 18 = .ok (.ifCond .ne 5, 3) := by decide +kernel
theorem dX2_firstWrong_21 : decode cX2_firstWrong 21 = .ok (.iconst 2, 1) := by decide +kernel
theorem dX2_firstWrong_22 : decode cX2_firstWrong 22 = .ok (.ireturn, 1) := by decide +kernel
theorem dX2_firstWrong_23 : decode cX2_firstWrong 23 = .ok (.aload_n 0, 1) := by decide +kernel
theorem dX2_firstWrong_24 : decode cX2_firstWrong 24 = .ok (.invokevirtual 74, 3) := by decide +kernel
theorem dX2_firstWrong_27 : decode cX2_firstWrong 27 = .ok (.ifCond .ne 5, 3) := by decide +kernel
theorem dX2_firstWrong_30 : decode cX2_firstWrong 30 = .ok (.iconst 3, 1) := by decide +kernel
theorem dX2_firstWrong_31 : decode cX2_firstWrong 31 = .ok (.ireturn, 1) := by decide +kernel
theorem dX2_firstWrong_32 : decode cX2_firstWrong 32 = .ok (.aload_n 0, 1) := by decide +kernel
theorem dX2_firstWrong_33 : decode cX2_firstWrong 33 = .ok (.invokevirtual 77, 3) := by decide +kernel
theorem dX2_firstWrong_36 : decode cX2_firstWrong 36 = .ok (.ifCond .ne 5, 3) := by decide +kernel
theorem dX2_firstWrong_39 : decode cX2_firstWrong 39 = .ok (.iconst 4, 1) := by decide +kernel
theorem dX2_firstWrong_40 : decode cX2_firstWrong 40 = .ok (.ireturn, 1) := by decide +kernel
theorem dX2_firstWrong_41 : decode cX2_firstWrong 41 = .ok (.aload_n 0, 1) := by decide +kernel
theorem dX2_firstWrong_42 : decode cX2_firstWrong 42 = .ok (.invokevirtual 80, 3) := by decide +kernel
theorem dX2_firstWrong_45 : decode cX2_firstWrong 45 = .ok (.ifCond .eq 7, 3) := by decide +kernel
theorem dX2_firstWrong_48 : decode cX2_firstWrong 48 = .ok (.iconst 0, 1) := by decide +kernel
theorem dX2_firstWrong_49 : decode cX2_firstWrong 49 = .ok (.goto 4, 3) := by decide +kernel
theorem dX2_firstWrong_52 : decode cX2_firstWrong 52 = .ok (.iconst 5, 1) := by decide +kernel
theorem dX2_firstWrong_53 : decode cX2_firstWrong 53 = .ok (.ireturn, 1) := by decide +kernel
theorem dX2_slackOf_0 : decode cX2_slackOf 0 = .ok (.aload_n 0, 1) := by decide +kernel
theorem dX2_slackOf_1 : decode cX2_slackOf 1 = .ok (.getfield 18, 3) := by decide +kernel
theorem dX2_slackOf_4 : decode cX2_slackOf 4 = .ok (.aload_n 0, 1) := by decide +kernel
theorem dX2_slackOf_5 : decode cX2_slackOf 5 = .ok (.getfield 18, 3) := by decide +kernel
theorem dX2_slackOf_8 : decode cX2_slackOf 8 = .ok (.iload_n 1, 1) := by decide +kernel
theorem dX2_slackOf_9 : decode cX2_slackOf 9 = .ok (.aload_n 0, 1) := by decide +kernel
theorem dX2_slackOf_10 : decode cX2_slackOf 10 = .ok (.getfield 18, 3) := by decide +kernel
theorem dX2_slackOf_13 : decode cX2_slackOf 13 = .ok (.getfield 83, 3) := by decide +kernel
theorem dX2_slackOf_16 : decode cX2_slackOf 16 = .ok (.invokevirtual 86, 3) := by decide +kernel
theorem dX2_slackOf_19 : decode cX2_slackOf 19 = .ok (.iload_n 1, 1) := by decide +kernel
theorem dX2_slackOf_20 : decode cX2_slackOf 20 = .ok (.aload_n 0, 1) := by decide +kernel
theorem dX2_slackOf_21 : decode cX2_slackOf 21 = .ok (.getfield 12, 3) := by decide +kernel
theorem dX2_slackOf_24 : decode cX2_slackOf 24 = .ok (.invokevirtual 90, 3) := by decide +kernel
theorem dX2_slackOf_27 : decode cX2_slackOf 27 = .ok (.lreturn, 1) := by decide +kernel
theorem dX2_isBalanced_0 : decode cX2_isBalanced 0 = .ok (.iconst 0, 1) := by decide +kernel
theorem dX2_isBalanced_1 : decode cX2_isBalanced 1 = .ok (.istore_n 1, 1) := by decide +kernel
theorem dX2_isBalanced_2 : decode cX2_isBalanced 2 = .ok (.iload_n 1, 1) := by decide +kernel
theorem dX2_isBalanced_3 : decode cX2_isBalanced 3 = .ok (.aload_n 0, 1) := by decide +kernel
theorem dX2_isBalanced_4 : decode cX2_isBalanced 4 = .ok (.getfield 18, 3) := by decide +kernel
theorem dX2_isBalanced_7 : decode cX2_isBalanced 7 = .ok (.getfield 22, 3) := by decide +kernel
theorem dX2_isBalanced_10 : decode cX2_isBalanced 10 = .ok (.if_icmp .ge 128, 3) := by decide +kernel
theorem dX2_isBalanced_13 : decode cX2_isBalanced 13 = .ok (.aload_n 0, 1) := by decide +kernel
theorem dX2_isBalanced_14 : decode cX2_isBalanced 14 = .ok (.getfield 18, 3) := by decide +kernel
theorem dX2_isBalanced_17 : decode cX2_isBalanced 17 = .ok (.getfield 94, 3) := by decide +kernel
theorem dX2_isBalanced_20 : decode cX2_isBalanced 20 = .ok (.iload_n 1, 1) := by decide +kernel
theorem dX2_isBalanced_21 : decode cX2_isBalanced 21 = .ok (.iaload, 1) := by decide +kernel
theorem dX2_isBalanced_22 : decode cX2_isBalanced 22 = .ok (.i2l, 1) := by decide +kernel
theorem dX2_isBalanced_23 : decode cX2_isBalanced 23 = .ok (.aload_n 0, 1) := by decide +kernel
theorem dX2_isBalanced_24 : decode cX2_isBalanced 24 = .ok (.getfield 12, 3) := by decide +kernel
theorem dX2_isBalanced_27 : decode cX2_isBalanced 27 = .ok (.getfield 56, 3) := by decide +kernel
theorem dX2_isBalanced_30 : decode cX2_isBalanced 30 = .ok (.lmul, 1) := by decide +kernel
theorem dX2_isBalanced_31 : decode cX2_isBalanced 31 = .ok (.lstore_n 2, 1) := by decide +kernel
theorem dX2_isBalanced_32 : decode cX2_isBalanced 32 = .ok (.iconst 0, 1) := by decide +kernel
theorem dX2_isBalanced_33 : decode cX2_isBalanced 33 = .ok (.istore 4, 2) := by decide +kernel
theorem dX2_isBalanced_35 : decode cX2_isBalanced 35 = .ok (.iload 4, 2) := by decide +kernel
theorem dX2_isBalanced_37 : decode cX2_isBalanced 37 = .ok (.aload_n 0, 1) := by decide +kernel
theorem dX2_isBalanced_38 : decode cX2_isBalanced 38 = .ok (.getfield 18, 3) := by decide +kernel
theorem dX2_isBalanced_41 : decode cX2_isBalanced 41 = .ok (.getfield 22, 3) := by decide +kernel
theorem dX2_isBalanced_44 : decode cX2_isBalanced 44 = .ok (.if_icmp .ge 34, 3) := by decide +kernel
theorem dX2_isBalanced_47 : decode cX2_isBalanced 47 = .ok (.lload_n 2, 1) := by decide +kernel
theorem dX2_isBalanced_48 : decode cX2_isBalanced 48 = .ok (.aload_n 0, 1) := by decide +kernel
theorem dX2_isBalanced_49 : decode cX2_isBalanced 49 = .ok (.getfield 18, 3) := by decide +kernel
theorem dX2_isBalanced_52 : decode cX2_isBalanced 52 = .ok (.iload_n 1, 1) := by decide +kernel
theorem dX2_isBalanced_53 : decode cX2_isBalanced 53 = .ok (.iload 4, 2) := by decide +kernel
theorem dX2_isBalanced_55 : decode cX2_isBalanced 55 = .ok (.invokevirtual 98, 3) := by decide +kernel
theorem dX2_isBalanced_58 : decode cX2_isBalanced 58 = .ok (.i2l, 1) := by decide +kernel
theorem dX2_isBalanced_59 : decode cX2_isBalanced 59 = .ok (.aload_n 0, 1) := by decide +kernel
theorem dX2_isBalanced_60 : decode cX2_isBalanced 60 = .ok (.getfield 12, 3) := by decide +kernel
theorem dX2_isBalanced_63 : decode cX2_isBalanced 63 = .ok (.getfield 45, 3) := by decide +kernel
theorem dX2_isBalanced_66 : decode cX2_isBalanced 66 = .ok (.iload 4, 2) := by decide +kernel
theorem dX2_isBalanced_68 : decode cX2_isBalanced 68 = .ok (.laload, 1) := by decide +kernel
theorem dX2_isBalanced_69 : decode cX2_isBalanced 69 = .ok (.lmul, 1) := by decide +kernel
theorem dX2_isBalanced_70 : decode cX2_isBalanced 70 = .ok (.ladd, 1) := by decide +kernel
theorem dX2_isBalanced_71 : decode cX2_isBalanced 71 = .ok (.lstore_n 2, 1) := by decide +kernel
theorem dX2_isBalanced_72 : decode cX2_isBalanced 72 = .ok (.iinc 4 1, 3) := by decide +kernel
theorem dX2_isBalanced_75 : decode cX2_isBalanced 75 = .ok (.goto (-40), 3) := by decide +kernel
theorem dX2_isBalanced_78 : decode cX2_isBalanced 78 = .ok (.iconst 0, 1) := by decide +kernel
theorem dX2_isBalanced_79 : decode cX2_isBalanced 79 = .ok (.istore 4, 2) := by decide +kernel
theorem dX2_isBalanced_81 : decode cX2_isBalanced 81 = .ok (.iload 4, 2) := by decide +kernel
theorem dX2_isBalanced_83 : decode cX2_isBalanced 83 = .ok (.aload_n 0, 1) := by decide +kernel
theorem dX2_isBalanced_84 : decode cX2_isBalanced 84 = .ok (.getfield 18, 3) := by decide +kernel
theorem dX2_isBalanced_87 : decode cX2_isBalanced 87 = .ok (.getfield 28, 3) := by decide +kernel
theorem dX2_isBalanced_90 : decode cX2_isBalanced 90 = .ok (.if_icmp .ge 34, 3) := by decide +kernel
theorem dX2_isBalanced_93 : decode cX2_isBalanced 93 = .ok (.lload_n 2, 1) := by decide +kernel
theorem dX2_isBalanced_94 : decode cX2_isBalanced 94 = .ok (.aload_n 0, 1) := by decide +kernel
theorem dX2_isBalanced_95 : decode cX2_isBalanced 95 = .ok (.getfield 18, 3) := by decide +kernel
theorem dX2_isBalanced_98 : decode cX2_isBalanced 98 = .ok (.iload 4, 2) := by decide +kernel
theorem dX2_isBalanced_100 : decode cX2_isBalanced 100 = .ok (.iload_n 1, 1) := by decide +kernel
theorem dX2_isBalanced_101 : decode cX2_isBalanced 101 = .ok (.invokevirtual 101, 3) := by decide +kernel
theorem dX2_isBalanced_104 : decode cX2_isBalanced 104 = .ok (.i2l, 1) := by decide +kernel
theorem dX2_isBalanced_105 : decode cX2_isBalanced 105 = .ok (.aload_n 0, 1) := by decide +kernel
theorem dX2_isBalanced_106 : decode cX2_isBalanced 106 = .ok (.getfield 12, 3) := by decide +kernel
theorem dX2_isBalanced_109 : decode cX2_isBalanced 109 = .ok (.getfield 53, 3) := by decide +kernel
theorem dX2_isBalanced_112 : decode cX2_isBalanced 112 = .ok (.iload 4, 2) := by decide +kernel
theorem dX2_isBalanced_114 : decode cX2_isBalanced 114 = .ok (.laload, 1) := by decide +kernel
theorem dX2_isBalanced_115 : decode cX2_isBalanced 115 = .ok (.lmul, 1) := by decide +kernel
theorem dX2_isBalanced_116 : decode cX2_isBalanced 116 = .ok (.ladd, 1) := by decide +kernel
theorem dX2_isBalanced_117 : decode cX2_isBalanced 117 = .ok (.lstore_n 2, 1) := by decide +kernel
theorem dX2_isBalanced_118 : decode cX2_isBalanced 118 = .ok (.iinc 4 1, 3) := by decide +kernel
theorem dX2_isBalanced_121 : decode cX2_isBalanced 121 = .ok (.goto (-40), 3) := by decide +kernel
theorem dX2_isBalanced_124 : decode cX2_isBalanced 124 = .ok (.lload_n 2, 1) := by decide +kernel
theorem dX2_isBalanced_125 : decode cX2_isBalanced 125 = .ok (.lconst 0, 1) := by decide +kernel
theorem dX2_isBalanced_126 : decode cX2_isBalanced 126 = .ok (.lcmp, 1) := by decide +kernel
theorem dX2_isBalanced_127 : decode cX2_isBalanced 127 = .ok (.ifCond .eq 5, 3) := by decide +kernel
theorem dX2_isBalanced_130 : decode cX2_isBalanced 130 = .ok (.iconst 0, 1) := by decide +kernel
theorem dX2_isBalanced_131 : decode cX2_isBalanced 131 = .ok (.ireturn, 1) := by decide +kernel
theorem dX2_isBalanced_132 : decode cX2_isBalanced 132 = .ok (.iinc 1 1, 3) := by decide +kernel
theorem dX2_isBalanced_135 : decode cX2_isBalanced 135 = .ok (.goto (-133), 3) := by decide +kernel
theorem dX2_isBalanced_138 : decode cX2_isBalanced 138 = .ok (.iconst 1, 1) := by decide +kernel
theorem dX2_isBalanced_139 : decode cX2_isBalanced 139 = .ok (.ireturn, 1) := by decide +kernel
theorem dX2_isWeighedRight_0 : decode cX2_isWeighedRight 0 = .ok (.iconst 0, 1) := by decide +kernel
theorem dX2_isWeighedRight_1 : decode cX2_isWeighedRight 1 = .ok (.istore_n 1, 1) := by decide +kernel
theorem dX2_isWeighedRight_2 : decode cX2_isWeighedRight 2 = .ok (.iload_n 1, 1) := by decide +kernel
theorem dX2_isWeighedRight_3 : decode cX2_isWeighedRight 3 = .ok (.aload_n 0, 1) := by decide +kernel
theorem dX2_isWeighedRight_4 : decode cX2_isWeighedRight 4 = .ok (.getfield 18, 3) := by decide +kernel
theorem dX2_isWeighedRight_7 : decode cX2_isWeighedRight 7 = .ok (.getfield 28, 3) := by decide +kernel
theorem dX2_isWeighedRight_10 : decode cX2_isWeighedRight 10 = .ok (.if_icmp .ge 36, 3) := by decide +kernel
theorem dX2_isWeighedRight_13 : decode cX2_isWeighedRight 13 = .ok (.aload_n 0, 1) := by decide +kernel
theorem dX2_isWeighedRight_14 : decode cX2_isWeighedRight 14 = .ok (.getfield 12, 3) := by decide +kernel
theorem dX2_isWeighedRight_17 : decode cX2_isWeighedRight 17 = .ok (.getfield 53, 3) := by decide +kernel
theorem dX2_isWeighedRight_20 : decode cX2_isWeighedRight 20 = .ok (.iload_n 1, 1) := by decide +kernel
theorem dX2_isWeighedRight_21 : decode cX2_isWeighedRight 21 = .ok (.laload, 1) := by decide +kernel
theorem dX2_isWeighedRight_22 : decode cX2_isWeighedRight 22 = .ok (.lconst 0, 1) := by decide +kernel
theorem dX2_isWeighedRight_23 : decode cX2_isWeighedRight 23 = .ok (.lcmp, 1) := by decide +kernel
theorem dX2_isWeighedRight_24 : decode cX2_isWeighedRight 24 = .ok (.ifCond .ge 16, 3) := by decide +kernel
theorem dX2_isWeighedRight_27 : decode cX2_isWeighedRight 27 = .ok (.aload_n 0, 1) := by decide +kernel
theorem dX2_isWeighedRight_28 : decode cX2_isWeighedRight 28 = .ok (.getfield 18, 3) := by decide +kernel
theorem dX2_isWeighedRight_31 : decode cX2_isWeighedRight 31 = .ok (.iload_n 1, 1) := by decide +kernel
theorem dX2_isWeighedRight_32 : decode cX2_isWeighedRight 32 = .ok (.invokevirtual 104, 3) := by decide +kernel
theorem dX2_isWeighedRight_35 : decode cX2_isWeighedRight 35 = .ok (.ifCond .ne 5, 3) := by decide +kernel
theorem dX2_isWeighedRight_38 : decode cX2_isWeighedRight 38 = .ok (.iconst 0, 1) := by decide +kernel
theorem dX2_isWeighedRight_39 : decode cX2_isWeighedRight 39 = .ok (.ireturn, 1) := by decide +kernel
theorem dX2_isWeighedRight_40 : decode cX2_isWeighedRight 40 = .ok (.iinc 1 1, 3) := by decide +kernel
theorem dX2_isWeighedRight_43 : decode cX2_isWeighedRight 43 = .ok (.goto (-41), 3) := by decide +kernel
theorem dX2_isWeighedRight_46 : decode cX2_isWeighedRight 46 = .ok (.iconst 1, 1) := by decide +kernel
theorem dX2_isWeighedRight_47 : decode cX2_isWeighedRight 47 = .ok (.ireturn, 1) := by decide +kernel
theorem dX2_isHeld_0 : decode cX2_isHeld 0 = .ok (.iconst 0, 1) := by decide +kernel
theorem dX2_isHeld_1 : decode cX2_isHeld 1 = .ok (.istore_n 1, 1) := by decide +kernel
theorem dX2_isHeld_2 : decode cX2_isHeld 2 = .ok (.iload_n 1, 1) := by decide +kernel
theorem dX2_isHeld_3 : decode cX2_isHeld 3 = .ok (.aload_n 0, 1) := by decide +kernel
theorem dX2_isHeld_4 : decode cX2_isHeld 4 = .ok (.getfield 18, 3) := by decide +kernel
theorem dX2_isHeld_7 : decode cX2_isHeld 7 = .ok (.getfield 28, 3) := by decide +kernel
theorem dX2_isHeld_10 : decode cX2_isHeld 10 = .ok (.if_icmp .ge 27, 3) := by decide +kernel
theorem dX2_isHeld_13 : decode cX2_isHeld 13 = .ok (.aload_n 0, 1) := by decide +kernel
theorem dX2_isHeld_14 : decode cX2_isHeld 14 = .ok (.getfield 18, 3) := by decide +kernel
theorem dX2_isHeld_17 : decode cX2_isHeld 17 = .ok (.iload_n 1, 1) := by decide +kernel
theorem dX2_isHeld_18 : decode cX2_isHeld 18 = .ok (.aload_n 0, 1) := by decide +kernel
theorem dX2_isHeld_19 : decode cX2_isHeld 19 = .ok (.iload_n 1, 1) := by decide +kernel
theorem dX2_isHeld_20 : decode cX2_isHeld 20 = .ok (.invokevirtual 108, 3) := by decide +kernel
theorem dX2_isHeld_23 : decode cX2_isHeld 23 = .ok (.invokevirtual 112, 3) := by decide +kernel
theorem dX2_isHeld_26 : decode cX2_isHeld 26 = .ok (.ifCond .ne 5, 3) := by decide +kernel
theorem dX2_isHeld_29 : decode cX2_isHeld 29 = .ok (.iconst 0, 1) := by decide +kernel
theorem dX2_isHeld_30 : decode cX2_isHeld 30 = .ok (.ireturn, 1) := by decide +kernel
theorem dX2_isHeld_31 : decode cX2_isHeld 31 = .ok (.iinc 1 1, 3) := by decide +kernel
theorem dX2_isHeld_34 : decode cX2_isHeld 34 = .ok (.goto (-32), 3) := by decide +kernel
theorem dX2_isHeld_37 : decode cX2_isHeld 37 = .ok (.iconst 1, 1) := by decide +kernel
theorem dX2_isHeld_38 : decode cX2_isHeld 38 = .ok (.ireturn, 1) := by decide +kernel
theorem dX2_isWeightOnlyWhereTight_0 : decode cX2_isWeightOnlyWhereTight 0 = .ok (.iconst 0, 1) := by decide +kernel
theorem dX2_isWeightOnlyWhereTight_1 : decode cX2_isWeightOnlyWhereTight 1 = .ok (.istore_n 1, 1) := by decide +kernel
theorem dX2_isWeightOnlyWhereTight_2 : decode cX2_isWeightOnlyWhereTight 2 = .ok (.iload_n 1, 1) := by decide +kernel
theorem dX2_isWeightOnlyWhereTight_3 : decode cX2_isWeightOnlyWhereTight 3 = .ok (.aload_n 0, 1) := by decide +kernel
theorem dX2_isWeightOnlyWhereTight_4 : decode cX2_isWeightOnlyWhereTight 4 = .ok (.getfield 18, 3) := by decide +kernel
theorem dX2_isWeightOnlyWhereTight_7 : decode cX2_isWeightOnlyWhereTight 7 = .ok (.getfield 28, 3) := by decide +kernel
theorem dX2_isWeightOnlyWhereTight_10 : decode cX2_isWeightOnlyWhereTight 10 = .ok (.if_icmp .ge 35, 3) := by decide +kernel
theorem dX2_isWeightOnlyWhereTight_13 : decode cX2_isWeightOnlyWhereTight 13 = .ok (.aload_n 0, 1) := by decide +kernel
theorem dX2_isWeightOnlyWhereTight_14 : decode cX2_isWeightOnlyWhereTight 14 = .ok (.getfield 12, 3) := by decide +kernel
theorem dX2_isWeightOnlyWhereTight_17 : decode cX2_isWeightOnlyWhereTight 17 = .ok (.getfield 53, 3) := by decide +kernel
theorem dX2_isWeightOnlyWhereTight_20 : decode cX2_isWeightOnlyWhereTight 20 = .ok (.iload_n 1, 1) := by decide +kernel
theorem dX2_isWeightOnlyWhereTight_21 : decode cX2_isWeightOnlyWhereTight 21 = .ok (.laload, 1) := by decide +kernel
theorem dX2_isWeightOnlyWhereTight_22 : decode cX2_isWeightOnlyWhereTight 22 = .ok (.lconst 0, 1) := by decide +kernel
theorem dX2_isWeightOnlyWhereTight_23 : decode cX2_isWeightOnlyWhereTight 23 = .ok (.lcmp, 1) := by decide +kernel
theorem dX2_isWeightOnlyWhereTight_24 : decode cX2_isWeightOnlyWhereTight 24 = .ok (.ifCond .eq 15, 3) := by decide +kernel
theorem dX2_isWeightOnlyWhereTight_27 : decode cX2_isWeightOnlyWhereTight 27 = .ok (.aload_n 0, 1) := by decide +kernel
theorem dX2_isWeightOnlyWhereTight_28 : decode cX2_isWeightOnlyWhereTight 28 = .ok (.iload_n 1, 1) := by decide +kernel
theorem dX2_isWeightOnlyWhereTight_29 : decode cX2_isWeightOnlyWhereTight 29 = .ok (.invokevirtual 108, 3) := by decide +kernel
theorem dX2_isWeightOnlyWhereTight_32 : decode cX2_isWeightOnlyWhereTight 32 = .ok (.lconst 0, 1) := by decide +kernel
theorem dX2_isWeightOnlyWhereTight_33 : decode cX2_isWeightOnlyWhereTight 33 = .ok (.lcmp, 1) := by decide +kernel
theorem dX2_isWeightOnlyWhereTight_34 : decode cX2_isWeightOnlyWhereTight 34 = .ok (.ifCond .eq 5, 3) := by decide +kernel
theorem dX2_isWeightOnlyWhereTight_37 : decode cX2_isWeightOnlyWhereTight 37 = .ok (.iconst 0, 1) := by decide +kernel
theorem dX2_isWeightOnlyWhereTight_38 : decode cX2_isWeightOnlyWhereTight 38 = .ok (.ireturn, 1) := by decide +kernel
theorem dX2_isWeightOnlyWhereTight_39 : decode cX2_isWeightOnlyWhereTight 39 = .ok (.iinc 1 1, 3) := by decide +kernel
theorem dX2_isWeightOnlyWhereTight_42 : decode cX2_isWeightOnlyWhereTight 42 = .ok (.goto (-40), 3) := by decide +kernel
theorem dX2_isWeightOnlyWhereTight_45 : decode cX2_isWeightOnlyWhereTight 45 = .ok (.iconst 1, 1) := by decide +kernel
theorem dX2_isWeightOnlyWhereTight_46 : decode cX2_isWeightOnlyWhereTight 46 = .ok (.ireturn, 1) := by decide +kernel
theorem dX3_told_0 : decode cX3_told 0 = .ok (.lload_n 2, 1) := by decide +kernel
theorem dX3_told_1 : decode cX3_told 1 = .ok (.lload_n 0, 1) := by decide +kernel
theorem dX3_told_2 : decode cX3_told 2 = .ok (.invokestatic 7, 3) := by decide +kernel
theorem dX3_told_5 : decode cX3_told 5 = .ok (.lstore 5, 2) := by decide +kernel
theorem dX3_told_7 : decode cX3_told 7 = .ok (.lload 5, 2) := by decide +kernel
theorem dX3_told_9 : decode cX3_told 9 = .ok (.lconst 0, 1) := by decide +kernel
theorem dX3_told_10 : decode cX3_told 10 = .ok (.lcmp, 1) := by decide +kernel
theorem dX3_told_11 : decode cX3_told 11 = .ok (.ifCond .ne 5, 3) := by decide +kernel
theorem dX3_told_14 : decode cX3_told 14 = .ok (.lconst 0, 1) := by decide +kernel
theorem dX3_told_15 : decode cX3_told 15 = .ok (.lreturn, 1) := by decide +kernel
theorem dX3_told_16 : decode cX3_told 16 = .ok (.iload 4, 2) := by decide +kernel
theorem dX3_told_18 : decode cX3_told 18 = .ok (.ifCond .ne 7, 3) := by decide +kernel
theorem dX3_told_21 : decode cX3_told 21 = .ok (.lload_n 0, 1) := by decide +kernel
theorem dX3_told_22 : decode cX3_told 22 = .ok (.goto 4, 3) := by decide +kernel
theorem dX3_told_25 : decode cX3_told 25 = .ok (.lload_n 2, 1) := by decide +kernel
theorem dX3_told_26 : decode cX3_told 26 = .ok (.lload 5, 2) := by decide +kernel
theorem dX3_told_28 : decode cX3_told 28 = .ok (.ldiv, 1) := by decide +kernel
theorem dX3_told_29 : decode cX3_told 29 = .ok (.lreturn, 1) := by decide +kernel
theorem dX3_shared_0 : decode cX3_shared 0 = .ok (.lload_n 0, 1) := by decide +kernel
theorem dX3_shared_1 : decode cX3_shared 1 = .ok (.invokestatic 13, 3) := by decide +kernel
theorem dX3_shared_4 : decode cX3_shared 4 = .ok (.lstore 4, 2) := by decide +kernel
theorem dX3_shared_6 : decode cX3_shared 6 = .ok (.lload_n 2, 1) := by decide +kernel
theorem dX3_shared_7 : decode cX3_shared 7 = .ok (.invokestatic 13, 3) := by decide +kernel
theorem dX3_shared_10 : decode cX3_shared 10 = .ok (.lstore 6, 2) := by decide +kernel
theorem dX3_shared_12 : decode cX3_shared 12 = .ok (.iconst 0, 1) := by decide +kernel
theorem dX3_shared_13 : decode cX3_shared 13 = .ok (.istore 8, 2) := by decide +kernel
theorem dX3_shared_15 : decode cX3_shared 15 = .ok (.iload 8, 2) := by decide +kernel
theorem dX3_shared_17 : decode cX3_shared 17 = .ok (.bipush 100, 2) := by decide +kernel
theorem dX3_shared_19 : decode cX3_shared 19 = .ok (.if_icmp .ge 31, 3) := by decide +kernel
theorem dX3_shared_22 : decode cX3_shared 22 = .ok (.lload 6, 2) := by decide +kernel
theorem dX3_shared_24 : decode cX3_shared 24 = .ok (.lconst 0, 1) := by decide +kernel
theorem dX3_shared_25 : decode cX3_shared 25 = .ok (.lcmp, 1) := by decide +kernel
theorem dX3_shared_26 : decode cX3_shared 26 = .ok (.ifCond .eq 24, 3) := by decide +kernel
theorem dX3_shared_29 : decode cX3_shared 29 = .ok (.lload 4, 2) := by decide +kernel
theorem dX3_shared_31 : decode cX3_shared 31 = .ok (.lload 6, 2) := by decide +kernel
theorem dX3_shared_33 : decode cX3_shared 33 = .ok (.lrem, 1) := by decide +kernel
theorem dX3_shared_34 : decode cX3_shared 34 = .ok (.lstore 9, 2) := by decide +kernel
theorem dX3_shared_36 : decode cX3_shared 36 = .ok (.lload 6, 2) := by decide +kernel
theorem dX3_shared_38 : decode cX3_shared 38 = .ok (.lstore 4, 2) := by decide +kernel
theorem dX3_shared_40 : decode cX3_shared 40 = .ok (.lload 9, 2) := by decide +kernel
theorem dX3_shared_42 : decode cX3_shared 42 = .ok (.lstore 6, 2) := by decide +kernel
theorem dX3_shared_44 : decode cX3_shared 44 = .ok (.iinc 8 1, 3) := by decide +kernel
theorem dX3_shared_47 : decode cX3_shared 47 = .ok (.goto (-32), 3) := by decide +kernel
theorem dX3_shared_50 : decode cX3_shared 50 = .ok (.lload 4, 2) := by decide +kernel
theorem dX3_shared_52 : decode cX3_shared 52 = .ok (.lreturn, 1) := by decide +kernel
theorem dX3_isLess_0 : decode cX3_isLess 0 = .ok (.lload_n 0, 1) := by decide +kernel
theorem dX3_isLess_1 : decode cX3_isLess 1 = .ok (.lstore 8, 2) := by decide +kernel
theorem dX3_isLess_3 : decode cX3_isLess 3 = .ok (.lload_n 2, 1) := by decide +kernel
theorem dX3_isLess_4 : decode cX3_isLess 4 = .ok (.lstore 10, 2) := by decide +kernel
theorem dX3_isLess_6 : decode cX3_isLess 6 = .ok (.lload 4, 2) := by decide +kernel
theorem dX3_isLess_8 : decode cX3_isLess 8 = .ok (.lstore 12, 2) := by decide +kernel
theorem dX3_isLess_10 : decode cX3_isLess 10 = .ok (.lload 6, 2) := by decide +kernel
theorem dX3_isLess_12 : decode cX3_isLess 12 = .ok (.lstore 14, 2) := by decide +kernel
theorem dX3_isLess_14 : decode cX3_isLess 14 = .ok (.iconst 0, 1) := by decide +kernel
theorem dX3_isLess_15 : decode cX3_isLess 15 = .ok (.istore 16, 2) := by decide +kernel
theorem dX3_isLess_17 : decode cX3_isLess 17 = .ok (.iload 16, 2) := by decide +kernel
theorem dX3_isLess_19 : decode cX3_isLess 19 = .ok (.bipush 100, 2) := by decide +kernel
theorem dX3_isLess_21 : decode cX3_isLess 21 = .ok (.if_icmp .ge 133, 3) := by decide +kernel
theorem dX3_isLess_24 : decode cX3_isLess 24 = .ok (.lload 10, 2) := by decide +kernel
theorem dX3_isLess_26 : decode cX3_isLess 26 = .ok (.lconst 0, 1) := by decide +kernel
theorem dX3_isLess_27 : decode cX3_isLess 27 = .ok (.lcmp, 1) := by decide +kernel
theorem dX3_isLess_28 : decode cX3_isLess 28 = .ok (.ifCond .le 126, 3) := by decide +kernel
theorem dX3_isLess_31 : decode cX3_isLess 31 = .ok (.lload 14, 2) := by decide +kernel
theorem dX3_isLess_33 : decode cX3_isLess 33 = .ok (.lconst 0, 1) := by decide +kernel
theorem dX3_isLess_34 : decode cX3_isLess 34 = .ok (.lcmp, 1) := by decide +kernel
theorem dX3_isLess_35 : decode cX3_isLess 35 = .ok (.ifCond .le 119, 3) := by decide +kernel
theorem dX3_isLess_38 : decode cX3_isLess 38 = .ok (.lload 8, 2) := by decide +kernel
theorem dX3_isLess_40 : decode cX3_isLess 40 = .ok (.lload 10, 2) := by decide +kernel
theorem dX3_isLess_42 : decode cX3_isLess 42 = .ok (.invokestatic 19, 3) := by decide +kernel
theorem dX3_isLess_45 : decode cX3_isLess 45 = .ok (.lstore 17, 2) := by decide +kernel
theorem dX3_isLess_47 : decode cX3_isLess 47 = .ok (.lload 12, 2) := by decide +kernel
theorem dX3_isLess_49 : decode cX3_isLess 49 = .ok (.lload 14, 2) := by decide +kernel
theorem dX3_isLess_51 : decode cX3_isLess 51 = .ok (.invokestatic 19, 3) := by decide +kernel
theorem dX3_isLess_54 : decode cX3_isLess 54 = .ok (.lstore 19, 2) := by decide +kernel
theorem dX3_isLess_56 : decode cX3_isLess 56 = .ok (.lload 17, 2) := by decide +kernel
theorem dX3_isLess_58 : decode cX3_isLess 58 = .ok (.lload 19, 2) := by decide +kernel
theorem dX3_isLess_60 : decode cX3_isLess 60 = .ok (.lcmp, 1) := by decide +kernel
theorem dX3_isLess_61 : decode cX3_isLess 61 = .ok (.ifCond .eq 17, 3) := by decide +kernel
theorem dX3_isLess_64 : decode cX3_isLess 64 = .ok (.lload 17, 2) := by decide +kernel
theorem dX3_isLess_66 : decode cX3_isLess 66 = .ok (.lload 19, 2) := by decide +kernel
theorem dX3_isLess_68 : decode cX3_isLess 68 = .ok (.lcmp, 1) := by decide +kernel
theorem dX3_isLess_69 : decode cX3_isLess 69 = .ok (.ifCond .ge 7, 3) := by decide +kernel
theorem dX3_isLess_72 : decode cX3_isLess 72 = .ok (.iconst 1, 1) := by decide +kernel
theorem dX3_isLess_73 : decode cX3_isLess 73 = .ok (.goto 4, 3) := by decide +kernel
theorem dX3_isLess_76 : decode cX3_isLess 76 = .ok (.iconst 0, 1) := by decide +kernel
theorem dX3_isLess_77 : decode cX3_isLess 77 = .ok (.ireturn, 1) := by decide +kernel
theorem dX3_isLess_78 : decode cX3_isLess 78 = .ok (.lload 8, 2) := by decide +kernel
theorem dX3_isLess_80 : decode cX3_isLess 80 = .ok (.lload 17, 2) := by decide +kernel
theorem dX3_isLess_82 : decode cX3_isLess 82 = .ok (.lload 10, 2) := by decide +kernel
theorem dX3_isLess_84 : decode cX3_isLess 84 = .ok (.lmul, 1) := by decide +kernel
theorem dX3_isLess_85 : decode cX3_isLess 85 = .ok (.lsub, 1) := by decide +kernel
theorem dX3_isLess_86 : decode cX3_isLess 86 = .ok (.lstore 21, 2) := by decide +kernel
theorem dX3_isLess_88 : decode cX3_isLess 88 = .ok (.lload 12, 2) := by decide +kernel
theorem dX3_isLess_90 : decode cX3_isLess 90 = .ok (.lload 19, 2) := by decide +kernel
theorem dX3_isLess_92 : decode cX3_isLess 92 = .ok (.lload 14, 2) := by decide +kernel
theorem dX3_isLess_94 : decode cX3_isLess 94 = .ok (.lmul, 1) := by decide +kernel
theorem dX3_isLess_95 : decode cX3_isLess 95 = .ok (.lsub, 1) := by decide +kernel
theorem dX3_isLess_96 : decode cX3_isLess 96 = .ok (.lstore 23, 2) := by decide +kernel
theorem dX3_isLess_98 : decode cX3_isLess 98 = .ok (.lload 21, 2) := by decide +kernel
theorem dX3_isLess_100 : decode cX3_isLess 100 = .ok (.lconst 0, 1) := by decide +kernel
theorem dX3_isLess_101 : decode cX3_isLess 101 = .ok (.lcmp, 1) := by decide +kernel
theorem dX3_isLess_102 : decode cX3_isLess 102 = .ok (.ifCond .eq 10, 3) := by decide +kernel
theorem dX3_isLess_105 : decode cX3_isLess 105 = .ok (.lload 23, 2) := by decide +kernel
theorem dX3_isLess_107 : decode cX3_isLess 107 = .ok (.lconst 0, 1) := by decide +kernel
theorem dX3_isLess_108 : decode cX3_isLess 108 = .ok (.lcmp, 1) := by decide +kernel
theorem dX3_isLess_109 : decode cX3_isLess 109 = .ok (.ifCond .ne 23, 3) := by decide +kernel
theorem dX3_isLess_112 : decode cX3_isLess 112 = .ok (.lload 21, 2) := by decide +kernel
theorem dX3_isLess_114 : decode cX3_isLess 114 = .ok (.lconst 0, 1) := by decide +kernel
theorem dX3_isLess_115 : decode cX3_isLess 115 = .ok (.lcmp, 1) := by decide +kernel
theorem dX3_isLess_116 : decode cX3_isLess 116 = .ok (.ifCond .ne 14, 3) := by decide +kernel
theorem dX3_isLess_119 : decode cX3_isLess 119 = .ok (.lload 23, 2) := by decide +kernel
theorem dX3_isLess_121 : decode cX3_isLess 121 = .ok (.lconst 0, 1) := by decide +kernel
theorem dX3_isLess_122 : decode cX3_isLess 122 = .ok (.lcmp, 1) := by decide +kernel
theorem dX3_isLess_123 : decode cX3_isLess 123 = .ok (.ifCond .eq 7, 3) := by decide +kernel
theorem dX3_isLess_126 : decode cX3_isLess 126 = .ok (.iconst 1, 1) := by decide +kernel
theorem dX3_isLess_127 : decode cX3_isLess 127 = .ok (.goto 4, 3) := by decide +kernel
theorem dX3_isLess_130 : decode cX3_isLess 130 = .ok (.iconst 0, 1) := by decide +kernel
theorem dX3_isLess_131 : decode cX3_isLess 131 = .ok (.ireturn, 1) := by decide +kernel
theorem dX3_isLess_132 : decode cX3_isLess 132 = .ok (.lload 14, 2) := by decide +kernel
theorem dX3_isLess_134 : decode cX3_isLess 134 = .ok (.lstore 8, 2) := by decide +kernel
theorem dX3_isLess_136 : decode cX3_isLess 136 = .ok (.lload 10, 2) := by decide +kernel
theorem dX3_isLess_138 : decode cX3_isLess 138 = .ok (.lstore 12, 2) := by decide +kernel
theorem dX3_isLess_140 : decode cX3_isLess 140 = .ok (.lload 21, 2) := by decide +kernel
theorem dX3_isLess_142 : decode cX3_isLess 142 = .ok (.lstore 14, 2) := by decide +kernel
theorem dX3_isLess_144 : decode cX3_isLess 144 = .ok (.lload 23, 2) := by decide +kernel
theorem dX3_isLess_146 : decode cX3_isLess 146 = .ok (.lstore 10, 2) := by decide +kernel
theorem dX3_isLess_148 : decode cX3_isLess 148 = .ok (.iinc 16 1, 3) := by decide +kernel
theorem dX3_isLess_151 : decode cX3_isLess 151 = .ok (.goto (-134), 3) := by decide +kernel
theorem dX3_isLess_154 : decode cX3_isLess 154 = .ok (.iconst 0, 1) := by decide +kernel
theorem dX3_isLess_155 : decode cX3_isLess 155 = .ok (.ireturn, 1) := by decide +kernel
theorem dX4_init_0 : decode cX4_init 0 = .ok (.aload_n 0, 1) := by decide +kernel
theorem dX4_init_1 : decode cX4_init 1 = .ok (.invokespecial 3, 3) := by decide +kernel
theorem dX4_init_4 : decode cX4_init 4 = .ok (.aload_n 0, 1) := by decide +kernel
theorem dX4_init_5 : decode cX4_init 5 = .ok (.iconst 3, 1) := by decide +kernel
theorem dX4_init_6 : decode cX4_init 6 = .ok (.newarray .long, 2) := by decide +kernel
theorem dX4_init_8 : decode cX4_init 8 = .ok (.putfield 9, 3) := by decide +kernel
theorem dX4_init_11 : decode cX4_init 11 = .ok (.aload_n 0, 1) := by decide +kernel
theorem dX4_init_12 : decode cX4_init 12 = .ok (.bipush 6, 2) := by decide +kernel
theorem dX4_init_14 : decode cX4_init 14 = .ok (.newarray .long, 2) := by decide +kernel
theorem dX4_init_16 : decode cX4_init 16 = .ok (.putfield 15, 3) := by decide +kernel
theorem dX4_init_19 : decode cX4_init 19 = .ok (.aload_n 0, 1) := by decide +kernel
theorem dX4_init_20 : decode cX4_init 20 = .ok (.lconst 1, 1) := by decide +kernel
theorem dX4_init_21 : decode cX4_init 21 = .ok (.putfield 18, 3) := by decide +kernel
theorem dX4_init_24 : decode cX4_init 24 = .ok (.return_, 1) := by decide +kernel
theorem dX5_init_0 : decode cX5_init 0 = .ok (.aload_n 0, 1) := by decide +kernel
theorem dX5_init_1 : decode cX5_init 1 = .ok (.invokespecial 3, 3) := by decide +kernel
theorem dX5_init_4 : decode cX5_init 4 = .ok (.aload_n 0, 1) := by decide +kernel
theorem dX5_init_5 : decode cX5_init 5 = .ok (.iconst 4, 1) := by decide +kernel
theorem dX5_init_6 : decode cX5_init 6 = .ok (.newarray .int, 2) := by decide +kernel
theorem dX5_init_8 : decode cX5_init 8 = .ok (.putfield 9, 3) := by decide +kernel
theorem dX5_init_11 : decode cX5_init 11 = .ok (.aload_n 0, 1) := by decide +kernel
theorem dX5_init_12 : decode cX5_init 12 = .ok (.iconst 4, 1) := by decide +kernel
theorem dX5_init_13 : decode cX5_init 13 = .ok (.newarray .int, 2) := by decide +kernel
theorem dX5_init_15 : decode cX5_init 15 = .ok (.putfield 15, 3) := by decide +kernel
theorem dX5_init_18 : decode cX5_init 18 = .ok (.aload_n 0, 1) := by decide +kernel
theorem dX5_init_19 : decode cX5_init 19 = .ok (.bipush 48, 2) := by decide +kernel
theorem dX5_init_21 : decode cX5_init 21 = .ok (.newarray .long, 2) := by decide +kernel
theorem dX5_init_23 : decode cX5_init 23 = .ok (.putfield 18, 3) := by decide +kernel
theorem dX5_init_26 : decode cX5_init 26 = .ok (.aload_n 0, 1) := by decide +kernel
theorem dX5_init_27 : decode cX5_init 27 = .ok (.getfield 9, 3) := by decide +kernel
theorem dX5_init_30 : decode cX5_init 30 = .ok (.iconst (-1), 1) := by decide +kernel
theorem dX5_init_31 : decode cX5_init 31 = .ok (.invokestatic 22, 3) := by decide +kernel
theorem dX5_init_34 : decode cX5_init 34 = .ok (.return_, 1) := by decide +kernel
theorem dX5_begin_0 : decode cX5_begin 0 = .ok (.aload_n 0, 1) := by decide +kernel
theorem dX5_begin_1 : decode cX5_begin 1 = .ok (.getfield 9, 3) := by decide +kernel
theorem dX5_begin_4 : decode cX5_begin 4 = .ok (.iload_n 1, 1) := by decide +kernel
theorem dX5_begin_5 : decode cX5_begin 5 = .ok (.iload_n 2, 1) := by decide +kernel
theorem dX5_begin_6 : decode cX5_begin 6 = .ok (.iastore, 1) := by decide +kernel
theorem dX5_begin_7 : decode cX5_begin 7 = .ok (.aload_n 0, 1) := by decide +kernel
theorem dX5_begin_8 : decode cX5_begin 8 = .ok (.getfield 15, 3) := by decide +kernel
theorem dX5_begin_11 : decode cX5_begin 11 = .ok (.iload_n 1, 1) := by decide +kernel
theorem dX5_begin_12 : decode cX5_begin 12 = .ok (.iload_n 3, 1) := by decide +kernel
theorem dX5_begin_13 : decode cX5_begin 13 = .ok (.iastore, 1) := by decide +kernel
theorem dX5_begin_14 : decode cX5_begin 14 = .ok (.iconst 0, 1) := by decide +kernel
theorem dX5_begin_15 : decode cX5_begin 15 = .ok (.istore 4, 2) := by decide +kernel
theorem dX5_begin_17 : decode cX5_begin 17 = .ok (.iload 4, 2) := by decide +kernel
theorem dX5_begin_19 : decode cX5_begin 19 = .ok (.bipush 12, 2) := by decide +kernel
theorem dX5_begin_21 : decode cX5_begin 21 = .ok (.if_icmp .ge 17, 3) := by decide +kernel
theorem dX5_begin_24 : decode cX5_begin 24 = .ok (.aload_n 0, 1) := by decide +kernel
theorem dX5_begin_25 : decode cX5_begin 25 = .ok (.iload_n 1, 1) := by decide +kernel
theorem dX5_begin_26 : decode cX5_begin 26 = .ok (.iload 4, 2) := by decide +kernel
theorem dX5_begin_28 : decode cX5_begin 28 = .ok (.lconst 0, 1) := by decide +kernel
theorem dX5_begin_29 : decode cX5_begin 29 = .ok (.invokevirtual 28, 3) := by decide +kernel
theorem dX5_begin_32 : decode cX5_begin 32 = .ok (.iinc 4 1, 3) := by decide +kernel
theorem dX5_begin_35 : decode cX5_begin 35 = .ok (.goto (-18), 3) := by decide +kernel
theorem dX5_begin_38 : decode cX5_begin 38 = .ok (.return_, 1) := by decide +kernel
theorem dX5_at_0 : decode cX5_at 0 = .ok (.aload_n 0, 1) := by decide +kernel
theorem dX5_at_1 : decode cX5_at 1 = .ok (.getfield 18, 3) := by decide +kernel
theorem dX5_at_4 : decode cX5_at 4 = .ok (.iload_n 1, 1) := by decide +kernel
theorem dX5_at_5 : decode cX5_at 5 = .ok (.bipush 12, 2) := by decide +kernel
theorem dX5_at_7 : decode cX5_at 7 = .ok (.imul, 1) := by decide +kernel
theorem dX5_at_8 : decode cX5_at 8 = .ok (.iload_n 2, 1) := by decide +kernel
theorem dX5_at_9 : decode cX5_at 9 = .ok (.iadd, 1) := by decide +kernel
theorem dX5_at_10 : decode cX5_at 10 = .ok (.laload, 1) := by decide +kernel
theorem dX5_at_11 : decode cX5_at 11 = .ok (.lreturn, 1) := by decide +kernel
theorem dX5_put_0 : decode cX5_put 0 = .ok (.aload_n 0, 1) := by decide +kernel
theorem dX5_put_1 : decode cX5_put 1 = .ok (.getfield 18, 3) := by decide +kernel
theorem dX5_put_4 : decode cX5_put 4 = .ok (.iload_n 1, 1) := by decide +kernel
theorem dX5_put_5 : decode cX5_put 5 = .ok (.bipush 12, 2) := by decide +kernel
theorem dX5_put_7 : decode cX5_put 7 = .ok (.imul, 1) := by decide +kernel
theorem dX5_put_8 : decode cX5_put 8 = .ok (.iload_n 2, 1) := by decide +kernel
theorem dX5_put_9 : decode cX5_put 9 = .ok (.iadd, 1) := by decide +kernel
theorem dX5_put_10 : decode cX5_put 10 = .ok (.lload_n 3, 1) := by decide +kernel
theorem dX5_put_11 : decode cX5_put 11 = .ok (.lastore, 1) := by decide +kernel
theorem dX5_put_12 : decode cX5_put 12 = .ok (.return_, 1) := by decide +kernel
theorem dX5_hasRoom_0 : decode cX5_hasRoom 0 = .ok (.iload_n 3, 1) := by decide +kernel
theorem dX5_hasRoom_1 : decode cX5_hasRoom 1 = .ok (.ifCond .lt 33, 3) := by decide +kernel
theorem dX5_hasRoom_4 : decode cX5_hasRoom 4 = .ok (.iload_n 2, 1) := by decide +kernel
theorem dX5_hasRoom_5 : decode cX5_hasRoom 5 = .ok (.ifCond .lt 29, 3) := by decide +kernel
theorem dX5_hasRoom_8 : decode cX5_hasRoom 8 = .ok (.iload_n 2, 1) := by decide +kernel
theorem dX5_hasRoom_9 : decode cX5_hasRoom 9 = .ok (.aload_n 0, 1) := by decide +kernel
theorem dX5_hasRoom_10 : decode cX5_hasRoom 10 = .ok (.getfield 15, 3) := by decide +kernel
theorem dX5_hasRoom_13 : decode cX5_hasRoom 13 = .ok (.iload_n 1, 1) := by decide +kernel
theorem dX5_hasRoom_14 : decode cX5_hasRoom 14 = .ok (.iaload, 1) := by decide +kernel
theorem dX5_hasRoom_15 : decode cX5_hasRoom 15 = .ok (.if_icmp .gt 19, 3) := by decide +kernel
theorem dX5_hasRoom_18 : decode cX5_hasRoom 18 = .ok (.iload_n 3, 1) := by decide +kernel
theorem dX5_hasRoom_19 : decode cX5_hasRoom 19 = .ok (.aload_n 0, 1) := by decide +kernel
theorem dX5_hasRoom_20 : decode cX5_hasRoom 20 = .ok (.getfield 15, 3) := by decide +kernel
theorem dX5_hasRoom_23 : decode cX5_hasRoom 23 = .ok (.iload_n 1, 1) := by decide +kernel
theorem dX5_hasRoom_24 : decode cX5_hasRoom 24 = .ok (.iaload, 1) := by decide +kernel
theorem dX5_hasRoom_25 : decode cX5_hasRoom 25 = .ok (.iload_n 2, 1) := by decide +kernel
theorem dX5_hasRoom_26 : decode cX5_hasRoom 26 = .ok (.isub, 1) := by decide +kernel
theorem dX5_hasRoom_27 : decode cX5_hasRoom 27 = .ok (.if_icmp .gt 7, 3) := by decide +kernel
theorem dX5_hasRoom_30 : decode cX5_hasRoom 30 = .ok (.iconst 1, 1) := by decide +kernel
theorem dX5_hasRoom_31 : decode cX5_hasRoom 31 = .ok (.goto 4, 3) := by decide +kernel
theorem dX5_hasRoom_34 : decode cX5_hasRoom 34 = .ok (.iconst 0, 1) := by decide +kernel
theorem dX5_hasRoom_35 : decode cX5_hasRoom 35 = .ok (.ireturn, 1) := by decide +kernel
theorem dX5_move_0 : decode cX5_move 0 = .ok (.aload_n 0, 1) := by decide +kernel
theorem dX5_move_1 : decode cX5_move 1 = .ok (.getfield 18, 3) := by decide +kernel
theorem dX5_move_4 : decode cX5_move 4 = .ok (.iload_n 1, 1) := by decide +kernel
theorem dX5_move_5 : decode cX5_move 5 = .ok (.bipush 12, 2) := by decide +kernel
theorem dX5_move_7 : decode cX5_move 7 = .ok (.imul, 1) := by decide +kernel
theorem dX5_move_8 : decode cX5_move 8 = .ok (.iload_n 2, 1) := by decide +kernel
theorem dX5_move_9 : decode cX5_move 9 = .ok (.iadd, 1) := by decide +kernel
theorem dX5_move_10 : decode cX5_move 10 = .ok (.aload_n 0, 1) := by decide +kernel
theorem dX5_move_11 : decode cX5_move 11 = .ok (.getfield 18, 3) := by decide +kernel
theorem dX5_move_14 : decode cX5_move 14 = .ok (.iload_n 3, 1) := by decide +kernel
theorem dX5_move_15 : decode cX5_move 15 = .ok (.bipush 12, 2) := by decide +kernel
theorem dX5_move_17 : decode cX5_move 17 = .ok (.imul, 1) := by decide +kernel
theorem dX5_move_18 : decode cX5_move 18 = .ok (.iload 4, 2) := by decide +kernel
theorem dX5_move_20 : decode cX5_move 20 = .ok (.iadd, 1) := by decide +kernel
theorem dX5_move_21 : decode cX5_move 21 = .ok (.iload 5, 2) := by decide +kernel
theorem dX5_move_23 : decode cX5_move 23 = .ok (.invokestatic 32, 3) := by decide +kernel
theorem dX5_move_26 : decode cX5_move 26 = .ok (.return_, 1) := by decide +kernel
theorem dX5_isAllWithin_0 : decode cX5_isAllWithin 0 = .ok (.iconst 0, 1) := by decide +kernel
theorem dX5_isAllWithin_1 : decode cX5_isAllWithin 1 = .ok (.istore 4, 2) := by decide +kernel
theorem dX5_isAllWithin_3 : decode cX5_isAllWithin 3 = .ok (.iload 4, 2) := by decide +kernel
theorem dX5_isAllWithin_5 : decode cX5_isAllWithin 5 = .ok (.aload_n 0, 1) := by decide +kernel
theorem dX5_isAllWithin_6 : decode cX5_isAllWithin 6 = .ok (.getfield 15, 3) := by decide +kernel
theorem dX5_isAllWithin_9 : decode cX5_isAllWithin 9 = .ok (.iload_n 1, 1) := by decide +kernel
theorem dX5_isAllWithin_10 : decode cX5_isAllWithin 10 = .ok (.iaload, 1) := by decide +kernel
theorem dX5_isAllWithin_11 : decode cX5_isAllWithin 11 = .ok (.if_icmp .ge 36, 3) := by decide +kernel
theorem dX5_isAllWithin_14 : decode cX5_isAllWithin 14 = .ok (.aload_n 0, 1) := by decide +kernel
theorem dX5_isAllWithin_15 : decode cX5_isAllWithin 15 = .ok (.iload_n 1, 1) := by decide +kernel
theorem dX5_isAllWithin_16 : decode cX5_isAllWithin 16 = .ok (.iload 4, 2) := by decide +kernel
theorem dX5_isAllWithin_18 : decode cX5_isAllWithin 18 = .ok (.invokevirtual 38, 3) := by decide +kernel
theorem dX5_isAllWithin_21 : decode cX5_isAllWithin 21 = .ok (.lload_n 2, 1) := by decide +kernel
theorem dX5_isAllWithin_22 : decode cX5_isAllWithin 22 = .ok (.lneg, 1) := by decide +kernel
theorem dX5_isAllWithin_23 : decode cX5_isAllWithin 23 = .ok (.lcmp, 1) := by decide +kernel
theorem dX5_isAllWithin_24 : decode cX5_isAllWithin 24 = .ok (.ifCond .lt 15, 3) := by decide +kernel
theorem dX5_isAllWithin_27 : decode cX5_isAllWithin 27 = .ok (.aload_n 0, 1) := by decide +kernel
theorem dX5_isAllWithin_28 : decode cX5_isAllWithin 28 = .ok (.iload_n 1, 1) := by decide +kernel
theorem dX5_isAllWithin_29 : decode cX5_isAllWithin 29 = .ok (.iload 4, 2) := by decide +kernel
theorem dX5_isAllWithin_31 : decode cX5_isAllWithin 31 = .ok (.invokevirtual 38, 3) := by decide +kernel
theorem dX5_isAllWithin_34 : decode cX5_isAllWithin 34 = .ok (.lload_n 2, 1) := by decide +kernel
theorem dX5_isAllWithin_35 : decode cX5_isAllWithin 35 = .ok (.lcmp, 1) := by decide +kernel
theorem dX5_isAllWithin_36 : decode cX5_isAllWithin 36 = .ok (.ifCond .le 5, 3) := by decide +kernel
theorem dX5_isAllWithin_39 : decode cX5_isAllWithin 39 = .ok (.iconst 0, 1) := by decide +kernel
theorem dX5_isAllWithin_40 : decode cX5_isAllWithin 40 = .ok (.ireturn, 1) := by decide +kernel
theorem dX5_isAllWithin_41 : decode cX5_isAllWithin 41 = .ok (.iinc 4 1, 3) := by decide +kernel
theorem dX5_isAllWithin_44 : decode cX5_isAllWithin 44 = .ok (.goto (-41), 3) := by decide +kernel
theorem dX5_isAllWithin_47 : decode cX5_isAllWithin 47 = .ok (.iconst 1, 1) := by decide +kernel
theorem dX5_isAllWithin_48 : decode cX5_isAllWithin 48 = .ok (.ireturn, 1) := by decide +kernel
theorem dJ6_bitCount_0f7a4_0 : decode cJ6_bitCount_0f7a4 0 = .ok (.iload_n 0, 1) := by decide +kernel
theorem dJ6_bitCount_0f7a4_1 : decode cJ6_bitCount_0f7a4 1 = .ok (.iload_n 0, 1) := by decide +kernel
theorem dJ6_bitCount_0f7a4_2 : decode cJ6_bitCount_0f7a4 2 = .ok (.iconst 1, 1) := by decide +kernel
theorem dJ6_bitCount_0f7a4_3 : decode cJ6_bitCount_0f7a4 3 = .ok (.iushr, 1) := by decide +kernel
theorem dJ6_bitCount_0f7a4_4 : decode cJ6_bitCount_0f7a4 4 = .ok (.ldc_w 265, 3) := by decide +kernel
theorem dJ6_bitCount_0f7a4_7 : decode cJ6_bitCount_0f7a4 7 = .ok (.iand, 1) := by decide +kernel
theorem dJ6_bitCount_0f7a4_8 : decode cJ6_bitCount_0f7a4 8 = .ok (.isub, 1) := by decide +kernel
theorem dJ6_bitCount_0f7a4_9 : decode cJ6_bitCount_0f7a4 9 = .ok (.istore_n 0, 1) := by decide +kernel
theorem dJ6_bitCount_0f7a4_10 : decode cJ6_bitCount_0f7a4 10 = .ok (.iload_n 0, 1) := by decide +kernel
theorem dJ6_bitCount_0f7a4_11 : decode cJ6_bitCount_0f7a4 11 = .ok (.ldc_w 266, 3) := by decide +kernel
theorem dJ6_bitCount_0f7a4_14 : decode cJ6_bitCount_0f7a4 14 = .ok (.iand, 1) := by decide +kernel
theorem dJ6_bitCount_0f7a4_15 : decode cJ6_bitCount_0f7a4 15 = .ok (.iload_n 0, 1) := by decide +kernel
theorem dJ6_bitCount_0f7a4_16 : decode cJ6_bitCount_0f7a4 16 = .ok (.iconst 2, 1) := by decide +kernel
theorem dJ6_bitCount_0f7a4_17 : decode cJ6_bitCount_0f7a4 17 = .ok (.iushr, 1) := by decide +kernel
theorem dJ6_bitCount_0f7a4_18 : decode cJ6_bitCount_0f7a4 18 = .ok (.ldc_w 266, 3) := by decide +kernel
theorem dJ6_bitCount_0f7a4_21 : decode cJ6_bitCount_0f7a4 21 = .ok (.iand, 1) := by decide +kernel
theorem dJ6_bitCount_0f7a4_22 : decode cJ6_bitCount_0f7a4 22 = .ok (.iadd, 1) := by decide +kernel
theorem dJ6_bitCount_0f7a4_23 : decode cJ6_bitCount_0f7a4 23 = .ok (.istore_n 0, 1) := by decide +kernel
theorem dJ6_bitCount_0f7a4_24 : decode cJ6_bitCount_0f7a4 24 = .ok (.iload_n 0, 1) := by decide +kernel
theorem dJ6_bitCount_0f7a4_25 : decode cJ6_bitCount_0f7a4 25 = .ok (.iload_n 0, 1) := by decide +kernel
theorem dJ6_bitCount_0f7a4_26 : decode cJ6_bitCount_0f7a4 26 = .ok (.iconst 4, 1) := by decide +kernel
theorem dJ6_bitCount_0f7a4_27 : decode cJ6_bitCount_0f7a4 27 = .ok (.iushr, 1) := by decide +kernel
theorem dJ6_bitCount_0f7a4_28 : decode cJ6_bitCount_0f7a4 28 = .ok (.iadd, 1) := by decide +kernel
theorem dJ6_bitCount_0f7a4_29 : decode cJ6_bitCount_0f7a4 29 = .ok (.ldc_w 267, 3) := by decide +kernel
theorem dJ6_bitCount_0f7a4_32 : decode cJ6_bitCount_0f7a4 32 = .ok (.iand, 1) := by decide +kernel
theorem dJ6_bitCount_0f7a4_33 : decode cJ6_bitCount_0f7a4 33 = .ok (.istore_n 0, 1) := by decide +kernel
theorem dJ6_bitCount_0f7a4_34 : decode cJ6_bitCount_0f7a4 34 = .ok (.iload_n 0, 1) := by decide +kernel
theorem dJ6_bitCount_0f7a4_35 : decode cJ6_bitCount_0f7a4 35 = .ok (.iload_n 0, 1) := by decide +kernel
theorem dJ6_bitCount_0f7a4_36 : decode cJ6_bitCount_0f7a4 36 = .ok (.bipush 8, 2) := by decide +kernel
theorem dJ6_bitCount_0f7a4_38 : decode cJ6_bitCount_0f7a4 38 = .ok (.iushr, 1) := by decide +kernel
theorem dJ6_bitCount_0f7a4_39 : decode cJ6_bitCount_0f7a4 39 = .ok (.iadd, 1) := by decide +kernel
theorem dJ6_bitCount_0f7a4_40 : decode cJ6_bitCount_0f7a4 40 = .ok (.istore_n 0, 1) := by decide +kernel
theorem dJ6_bitCount_0f7a4_41 : decode cJ6_bitCount_0f7a4 41 = .ok (.iload_n 0, 1) := by decide +kernel
theorem dJ6_bitCount_0f7a4_42 : decode cJ6_bitCount_0f7a4 42 = .ok (.iload_n 0, 1) := by decide +kernel
theorem dJ6_bitCount_0f7a4_43 : decode cJ6_bitCount_0f7a4 43 = .ok (.bipush 16, 2) := by decide +kernel
theorem dJ6_bitCount_0f7a4_45 : decode cJ6_bitCount_0f7a4 45 = .ok (.iushr, 1) := by decide +kernel
theorem dJ6_bitCount_0f7a4_46 : decode cJ6_bitCount_0f7a4 46 = .ok (.iadd, 1) := by decide +kernel
theorem dJ6_bitCount_0f7a4_47 : decode cJ6_bitCount_0f7a4 47 = .ok (.istore_n 0, 1) := by decide +kernel
theorem dJ6_bitCount_0f7a4_48 : decode cJ6_bitCount_0f7a4 48 = .ok (.iload_n 0, 1) := by decide +kernel
theorem dJ6_bitCount_0f7a4_49 : decode cJ6_bitCount_0f7a4 49 = .ok (.bipush 63, 2) := by decide +kernel
theorem dJ6_bitCount_0f7a4_51 : decode cJ6_bitCount_0f7a4 51 = .ok (.iand, 1) := by decide +kernel
theorem dJ6_bitCount_0f7a4_52 : decode cJ6_bitCount_0f7a4 52 = .ok (.ireturn, 1) := by decide +kernel
theorem dJ7_fill_d0a16_0 : decode cJ7_fill_d0a16 0 = .ok (.iconst 0, 1) := by decide +kernel
theorem dJ7_fill_d0a16_1 : decode cJ7_fill_d0a16 1 = .ok (.istore_n 3, 1) := by decide +kernel
theorem dJ7_fill_d0a16_2 : decode cJ7_fill_d0a16 2 = .ok (.aload_n 0, 1) := by decide +kernel
theorem dJ7_fill_d0a16_3 : decode cJ7_fill_d0a16 3 = .ok (.arraylength, 1) := by decide +kernel
theorem dJ7_fill_d0a16_4 : decode cJ7_fill_d0a16 4 = .ok (.istore 4, 2) := by decide +kernel
theorem dJ7_fill_d0a16_6 : decode cJ7_fill_d0a16 6 = .ok (.iload_n 3, 1) := by decide +kernel
theorem dJ7_fill_d0a16_7 : decode cJ7_fill_d0a16 7 = .ok (.iload 4, 2) := by decide +kernel
theorem dJ7_fill_d0a16_9 : decode cJ7_fill_d0a16 9 = .ok (.if_icmp .ge 13, 3) := by decide +kernel
theorem dJ7_fill_d0a16_12 : decode cJ7_fill_d0a16 12 = .ok (.aload_n 0, 1) := by decide +kernel
theorem dJ7_fill_d0a16_13 : decode cJ7_fill_d0a16 13 = .ok (.iload_n 3, 1) := by decide +kernel
theorem dJ7_fill_d0a16_14 : decode cJ7_fill_d0a16 14 = .ok (.lload_n 1, 1) := by decide +kernel
theorem dJ7_fill_d0a16_15 : decode cJ7_fill_d0a16 15 = .ok (.lastore, 1) := by decide +kernel
theorem dJ7_fill_d0a16_16 : decode cJ7_fill_d0a16 16 = .ok (.iinc 3 1, 3) := by decide +kernel
theorem dJ7_fill_d0a16_19 : decode cJ7_fill_d0a16 19 = .ok (.goto (-13), 3) := by decide +kernel
theorem dJ7_fill_d0a16_22 : decode cJ7_fill_d0a16 22 = .ok (.return_, 1) := by decide +kernel
theorem dJ7_fill_53178_0 : decode cJ7_fill_53178 0 = .ok (.iconst 0, 1) := by decide +kernel
theorem dJ7_fill_53178_1 : decode cJ7_fill_53178 1 = .ok (.istore_n 2, 1) := by decide +kernel
theorem dJ7_fill_53178_2 : decode cJ7_fill_53178 2 = .ok (.aload_n 0, 1) := by decide +kernel
theorem dJ7_fill_53178_3 : decode cJ7_fill_53178 3 = .ok (.arraylength, 1) := by decide +kernel
theorem dJ7_fill_53178_4 : decode cJ7_fill_53178 4 = .ok (.istore_n 3, 1) := by decide +kernel
theorem dJ7_fill_53178_5 : decode cJ7_fill_53178 5 = .ok (.iload_n 2, 1) := by decide +kernel
theorem dJ7_fill_53178_6 : decode cJ7_fill_53178 6 = .ok (.iload_n 3, 1) := by decide +kernel
theorem dJ7_fill_53178_7 : decode cJ7_fill_53178 7 = .ok (.if_icmp .ge 13, 3) := by decide +kernel
theorem dJ7_fill_53178_10 : decode cJ7_fill_53178 10 = .ok (.aload_n 0, 1) := by decide +kernel
theorem dJ7_fill_53178_11 : decode cJ7_fill_53178 11 = .ok (.iload_n 2, 1) := by decide +kernel
theorem dJ7_fill_53178_12 : decode cJ7_fill_53178 12 = .ok (.iload_n 1, 1) := by decide +kernel
theorem dJ7_fill_53178_13 : decode cJ7_fill_53178 13 = .ok (.iastore, 1) := by decide +kernel
theorem dJ7_fill_53178_14 : decode cJ7_fill_53178 14 = .ok (.iinc 2 1, 3) := by decide +kernel
theorem dJ7_fill_53178_17 : decode cJ7_fill_53178 17 = .ok (.goto (-12), 3) := by decide +kernel
theorem dJ7_fill_53178_20 : decode cJ7_fill_53178 20 = .ok (.return_, 1) := by decide +kernel
theorem dJ9_floorDiv_f86c9_0 : decode cJ9_floorDiv_f86c9 0 = .ok (.lload_n 0, 1) := by decide +kernel
theorem dJ9_floorDiv_f86c9_1 : decode cJ9_floorDiv_f86c9 1 = .ok (.lload_n 2, 1) := by decide +kernel
theorem dJ9_floorDiv_f86c9_2 : decode cJ9_floorDiv_f86c9 2 = .ok (.ldiv, 1) := by decide +kernel
theorem dJ9_floorDiv_f86c9_3 : decode cJ9_floorDiv_f86c9 3 = .ok (.lstore 4, 2) := by decide +kernel
theorem dJ9_floorDiv_f86c9_5 : decode cJ9_floorDiv_f86c9 5 = .ok (.lload_n 0, 1) := by decide +kernel
theorem dJ9_floorDiv_f86c9_6 : decode cJ9_floorDiv_f86c9 6 = .ok (.lload_n 2, 1) := by decide +kernel
theorem dJ9_floorDiv_f86c9_7 : decode cJ9_floorDiv_f86c9 7 = .ok (.lxor, 1) := by decide +kernel
theorem dJ9_floorDiv_f86c9_8 : decode cJ9_floorDiv_f86c9 8 = .ok (.lconst 0, 1) := by decide +kernel
theorem dJ9_floorDiv_f86c9_9 : decode cJ9_floorDiv_f86c9 9 = .ok (.lcmp, 1) := by decide +kernel
theorem dJ9_floorDiv_f86c9_10 : decode cJ9_floorDiv_f86c9 10 = .ok (.ifCond .ge 17, 3) := by decide +kernel
theorem dJ9_floorDiv_f86c9_13 : decode cJ9_floorDiv_f86c9 13 = .ok (.lload 4, 2) := by decide +kernel
theorem dJ9_floorDiv_f86c9_15 : decode cJ9_floorDiv_f86c9 15 = .ok (.lload_n 2, 1) := by decide +kernel
theorem dJ9_floorDiv_f86c9_16 : decode cJ9_floorDiv_f86c9 16 = .ok (.lmul, 1) := by decide +kernel
theorem dJ9_floorDiv_f86c9_17 : decode cJ9_floorDiv_f86c9 17 = .ok (.lload_n 0, 1) := by decide +kernel
theorem dJ9_floorDiv_f86c9_18 : decode cJ9_floorDiv_f86c9 18 = .ok (.lcmp, 1) := by decide +kernel
theorem dJ9_floorDiv_f86c9_19 : decode cJ9_floorDiv_f86c9 19 = .ok (.ifCond .eq 8, 3) := by decide +kernel
theorem dJ9_floorDiv_f86c9_22 : decode cJ9_floorDiv_f86c9 22 = .ok (.lload 4, 2) := by decide +kernel
theorem dJ9_floorDiv_f86c9_24 : decode cJ9_floorDiv_f86c9 24 = .ok (.lconst 1, 1) := by decide +kernel
theorem dJ9_floorDiv_f86c9_25 : decode cJ9_floorDiv_f86c9 25 = .ok (.lsub, 1) := by decide +kernel
theorem dJ9_floorDiv_f86c9_26 : decode cJ9_floorDiv_f86c9 26 = .ok (.lreturn, 1) := by decide +kernel
theorem dJ9_floorDiv_f86c9_27 : decode cJ9_floorDiv_f86c9 27 = .ok (.lload 4, 2) := by decide +kernel
theorem dJ9_floorDiv_f86c9_29 : decode cJ9_floorDiv_f86c9 29 = .ok (.lreturn, 1) := by decide +kernel
theorem dJ9_abs_067f4_0 : decode cJ9_abs_067f4 0 = .ok (.lload_n 0, 1) := by decide +kernel
theorem dJ9_abs_067f4_1 : decode cJ9_abs_067f4 1 = .ok (.lconst 0, 1) := by decide +kernel
theorem dJ9_abs_067f4_2 : decode cJ9_abs_067f4 2 = .ok (.lcmp, 1) := by decide +kernel
theorem dJ9_abs_067f4_3 : decode cJ9_abs_067f4 3 = .ok (.ifCond .ge 8, 3) := by decide +kernel
theorem dJ9_abs_067f4_6 : decode cJ9_abs_067f4 6 = .ok (.lload_n 0, 1) := by decide +kernel
theorem dJ9_abs_067f4_7 : decode cJ9_abs_067f4 7 = .ok (.lneg, 1) := by decide +kernel
theorem dJ9_abs_067f4_8 : decode cJ9_abs_067f4 8 = .ok (.goto 4, 3) := by decide +kernel
theorem dJ9_abs_067f4_11 : decode cJ9_abs_067f4 11 = .ok (.lload_n 0, 1) := by decide +kernel
theorem dJ9_abs_067f4_12 : decode cJ9_abs_067f4 12 = .ok (.lreturn, 1) := by decide +kernel
end
section
theorem dX6_init_0 : decode cX6_init 0 = .ok (.aload_n 0, 1) := by decide +kernel
theorem dX6_init_1 : decode cX6_init 1 = .ok (.invokespecial 3, 3) := by decide +kernel
theorem dX6_init_4 : decode cX6_init 4 = .ok (.aload_n 0, 1) := by decide +kernel
theorem dX6_init_5 : decode cX6_init 5 = .ok (.new 9, 3) := by decide +kernel
theorem dX6_init_8 : decode cX6_init 8 = .ok (.dup, 1) := by decide +kernel
theorem dX6_init_9 : decode cX6_init 9 = .ok (.invokespecial 11, 3) := by decide +kernel
theorem dX6_init_12 : decode cX6_init 12 = .ok (.putfield 12, 3) := by decide +kernel
theorem dX6_init_15 : decode cX6_init 15 = .ok (.aload_n 0, 1) := by decide +kernel
theorem dX6_init_16 : decode cX6_init 16 = .ok (.new 9, 3) := by decide +kernel
theorem dX6_init_19 : decode cX6_init 19 = .ok (.dup, 1) := by decide +kernel
theorem dX6_init_20 : decode cX6_init 20 = .ok (.invokespecial 11, 3) := by decide +kernel
theorem dX6_init_23 : decode cX6_init 23 = .ok (.putfield 18, 3) := by decide +kernel
theorem dX6_init_26 : decode cX6_init 26 = .ok (.aload_n 0, 1) := by decide +kernel
theorem dX6_init_27 : decode cX6_init 27 = .ok (.bipush 64, 2) := by decide +kernel
theorem dX6_init_29 : decode cX6_init 29 = .ok (.newarray .int, 2) := by decide +kernel
theorem dX6_init_31 : decode cX6_init 31 = .ok (.putfield 21, 3) := by decide +kernel
theorem dX6_init_34 : decode cX6_init 34 = .ok (.aload_n 0, 1) := by decide +kernel
theorem dX6_init_35 : decode cX6_init 35 = .ok (.bipush 6, 2) := by decide +kernel
theorem dX6_init_37 : decode cX6_init 37 = .ok (.bipush 8, 2) := by decide +kernel
theorem dX6_init_39 : decode cX6_init 39 = .ok (.multianewarray 25 2, 4) := by decide +kernel
theorem dX6_init_43 : decode cX6_init 43 = .ok (.putfield 27, 3) := by decide +kernel
theorem dX6_init_46 : decode cX6_init 46 = .ok (.aload_n 0, 1) := by decide +kernel
theorem dX6_init_47 : decode cX6_init 47 = .ok (.iconst 3, 1) := by decide +kernel
theorem dX6_init_48 : decode cX6_init 48 = .ok (.newarray .int, 2) := by decide +kernel
theorem dX6_init_50 : decode cX6_init 50 = .ok (.putfield 30, 3) := by decide +kernel
theorem dX6_init_53 : decode cX6_init 53 = .ok (.aload_n 0, 1) := by decide +kernel
theorem dX6_init_54 : decode cX6_init 54 = .ok (.bipush 41, 2) := by decide +kernel
theorem dX6_init_56 : decode cX6_init 56 = .ok (.newarray .int, 2) := by decide +kernel
theorem dX6_init_58 : decode cX6_init 58 = .ok (.putfield 33, 3) := by decide +kernel
theorem dX6_init_61 : decode cX6_init 61 = .ok (.aload_n 0, 1) := by decide +kernel
theorem dX6_init_62 : decode cX6_init 62 = .ok (.aload_n 1, 1) := by decide +kernel
theorem dX6_init_63 : decode cX6_init 63 = .ok (.putfield 36, 3) := by decide +kernel
theorem dX6_init_66 : decode cX6_init 66 = .ok (.return_, 1) := by decide +kernel
theorem dX6_find_0 : decode cX6_find 0 = .ok (.iconst 0, 1) := by decide +kernel
theorem dX6_find_1 : decode cX6_find 1 = .ok (.istore_n 3, 1) := by decide +kernel
theorem dX6_find_2 : decode cX6_find 2 = .ok (.iload_n 3, 1) := by decide +kernel
theorem dX6_find_3 : decode cX6_find 3 = .ok (.iload_n 1, 1) := by decide +kernel
theorem dX6_find_4 : decode cX6_find 4 = .ok (.if_icmp .gt 46, 3) := by decide +kernel
theorem dX6_find_7 : decode cX6_find 7 = .ok (.iload_n 3, 1) := by decide +kernel
theorem dX6_find_8 : decode cX6_find 8 = .ok (.bipush 64, 2) := by decide +kernel
theorem dX6_find_10 : decode cX6_find 10 = .ok (.if_icmp .ge 40, 3) := by decide +kernel
theorem dX6_find_13 : decode cX6_find 13 = .ok (.iload_n 3, 1) := by decide +kernel
theorem dX6_find_14 : decode cX6_find 14 = .ok (.iload_n 1, 1) := by decide +kernel
theorem dX6_find_15 : decode cX6_find 15 = .ok (.iconst (-1), 1) := by decide +kernel
theorem dX6_find_16 : decode cX6_find 16 = .ok (.ixor, 1) := by decide +kernel
theorem dX6_find_17 : decode cX6_find 17 = .ok (.iand, 1) := by decide +kernel
theorem dX6_find_18 : decode cX6_find 18 = .ok (.ifCond .ne 26, 3) := by decide +kernel
theorem dX6_find_21 : decode cX6_find 21 = .ok (.aload_n 0, 1) := by decide +kernel
theorem dX6_find_22 : decode cX6_find 22 = .ok (.iload_n 3, 1) := by decide +kernel
theorem dX6_find_23 : decode cX6_find 23 = .ok (.invokevirtual 40, 3) := by decide +kernel
theorem dX6_find_26 : decode cX6_find 26 = .ok (.ifCond .eq 18, 3) := by decide +kernel
theorem dX6_find_29 : decode cX6_find 29 = .ok (.aload_n 0, 1) := by decide +kernel
theorem dX6_find_30 : decode cX6_find 30 = .ok (.iload_n 2, 1) := by decide +kernel
theorem dX6_find_31 : decode cX6_find 31 = .ok (.invokevirtual 44, 3) := by decide +kernel
theorem dX6_find_34 : decode cX6_find 34 = .ok (.aload_n 0, 1) := by decide +kernel
theorem dX6_find_35 : decode cX6_find 35 = .ok (.iload_n 1, 1) := by decide +kernel
theorem dX6_find_36 : decode cX6_find 36 = .ok (.invokevirtual 48, 3) := by decide +kernel
theorem dX6_find_39 : decode cX6_find 39 = .ok (.ifCond .eq 5, 3) := by decide +kernel
theorem dX6_find_42 : decode cX6_find 42 = .ok (.iload_n 3, 1) := by decide +kernel
theorem dX6_find_43 : decode cX6_find 43 = .ok (.ireturn, 1) := by decide +kernel
theorem dX6_find_44 : decode cX6_find 44 = .ok (.iinc 3 1, 3) := by decide +kernel
theorem dX6_find_47 : decode cX6_find 47 = .ok (.goto (-45), 3) := by decide +kernel
theorem dX6_find_50 : decode cX6_find 50 = .ok (.iconst (-1), 1) := by decide +kernel
theorem dX6_find_51 : decode cX6_find 51 = .ok (.ireturn, 1) := by decide +kernel
theorem dX6_meet_0 : decode cX6_meet 0 = .ok (.iload_n 1, 1) := by decide +kernel
theorem dX6_meet_1 : decode cX6_meet 1 = .ok (.invokestatic 51, 3) := by decide +kernel
theorem dX6_meet_4 : decode cX6_meet 4 = .ok (.aload_n 0, 1) := by decide +kernel
theorem dX6_meet_5 : decode cX6_meet 5 = .ok (.getfield 36, 3) := by decide +kernel
theorem dX6_meet_8 : decode cX6_meet 8 = .ok (.getfield 57, 3) := by decide +kernel
theorem dX6_meet_11 : decode cX6_meet 11 = .ok (.if_icmp .le 5, 3) := by decide +kernel
theorem dX6_meet_14 : decode cX6_meet 14 = .ok (.iconst 0, 1) := by decide +kernel
theorem dX6_meet_15 : decode cX6_meet 15 = .ok (.ireturn, 1) := by decide +kernel
theorem dX6_meet_16 : decode cX6_meet 16 = .ok (.aload_n 0, 1) := by decide +kernel
theorem dX6_meet_17 : decode cX6_meet 17 = .ok (.iload_n 1, 1) := by decide +kernel
theorem dX6_meet_18 : decode cX6_meet 18 = .ok (.invokevirtual 63, 3) := by decide +kernel
theorem dX6_meet_21 : decode cX6_meet 21 = .ok (.aload_n 0, 1) := by decide +kernel
theorem dX6_meet_22 : decode cX6_meet 22 = .ok (.invokevirtual 66, 3) := by decide +kernel
theorem dX6_meet_25 : decode cX6_meet 25 = .ok (.aload_n 0, 1) := by decide +kernel
theorem dX6_meet_26 : decode cX6_meet 26 = .ok (.invokevirtual 69, 3) := by decide +kernel
theorem dX6_meet_29 : decode cX6_meet 29 = .ok (.aload_n 0, 1) := by decide +kernel
theorem dX6_meet_30 : decode cX6_meet 30 = .ok (.invokevirtual 72, 3) := by decide +kernel
theorem dX6_meet_33 : decode cX6_meet 33 = .ok (.ireturn, 1) := by decide +kernel
theorem dX6_gather_0 : decode cX6_gather 0 = .ok (.iconst 0, 1) := by decide +kernel
theorem dX6_gather_1 : decode cX6_gather 1 = .ok (.istore_n 2, 1) := by decide +kernel
theorem dX6_gather_2 : decode cX6_gather 2 = .ok (.iconst 0, 1) := by decide +kernel
theorem dX6_gather_3 : decode cX6_gather 3 = .ok (.istore_n 3, 1) := by decide +kernel
theorem dX6_gather_4 : decode cX6_gather 4 = .ok (.iload_n 3, 1) := by decide +kernel
theorem dX6_gather_5 : decode cX6_gather 5 = .ok (.aload_n 0, 1) := by decide +kernel
theorem dX6_gather_6 : decode cX6_gather 6 = .ok (.getfield 36, 3) := by decide +kernel
theorem dX6_gather_9 : decode cX6_gather 9 = .ok (.getfield 76, 3) := by decide +kernel
theorem dX6_gather_12 : decode cX6_gather 12 = .ok (.if_icmp .ge 32, 3) := by decide +kernel
theorem dX6_gather_15 : decode cX6_gather 15 = .ok (.iload_n 2, 1) := by decide +kernel
theorem dX6_gather_16 : decode cX6_gather 16 = .ok (.iconst 3, 1) := by decide +kernel
theorem dX6_gather_17 : decode cX6_gather 17 = .ok (.if_icmp .ge 27, 3) := by decide +kernel
theorem dX6_gather_20 : decode cX6_gather 20 = .ok (.iload_n 1, 1) := by decide +kernel
theorem dX6_gather_21 : decode cX6_gather 21 = .ok (.iload_n 3, 1) := by decide +kernel
theorem dX6_gather_22 : decode cX6_gather 22 = .ok (.ishr, 1) := by decide +kernel
theorem dX6_gather_23 : decode cX6_gather 23 = .ok (.iconst 1, 1) := by decide +kernel
theorem dX6_gather_24 : decode cX6_gather 24 = .ok (.iand, 1) := by decide +kernel
theorem dX6_gather_25 : decode cX6_gather 25 = .ok (.ifCond .eq 13, 3) := by decide +kernel
theorem dX6_gather_28 : decode cX6_gather 28 = .ok (.aload_n 0, 1) := by decide +kernel
theorem dX6_gather_29 : decode cX6_gather 29 = .ok (.getfield 30, 3) := by decide +kernel
theorem dX6_gather_32 : decode cX6_gather 32 = .ok (.iload_n 2, 1) := by decide +kernel
theorem dX6_gather_33 : decode cX6_gather 33 = .ok (.iload_n 3, 1) := by decide +kernel
theorem dX6_gather_34 : decode cX6_gather 34 = .ok (.iastore, 1) := by decide +kernel
theorem dX6_gather_35 : decode cX6_gather 35 = .ok (.iinc 2 1, 3) := by decide +kernel
theorem dX6_gather_38 : decode cX6_gather 38 = .ok (.iinc 3 1, 3) := by decide +kernel
theorem dX6_gather_41 : decode cX6_gather 41 = .ok (.goto (-37), 3) := by decide +kernel
theorem dX6_gather_44 : decode cX6_gather 44 = .ok (.aload_n 0, 1) := by decide +kernel
theorem dX6_gather_45 : decode cX6_gather 45 = .ok (.aload_n 0, 1) := by decide +kernel
theorem dX6_gather_46 : decode cX6_gather 46 = .ok (.getfield 36, 3) := by decide +kernel
theorem dX6_gather_49 : decode cX6_gather 49 = .ok (.getfield 57, 3) := by decide +kernel
theorem dX6_gather_52 : decode cX6_gather 52 = .ok (.iload_n 2, 1) := by decide +kernel
theorem dX6_gather_53 : decode cX6_gather 53 = .ok (.iadd, 1) := by decide +kernel
theorem dX6_gather_54 : decode cX6_gather 54 = .ok (.putfield 79, 3) := by decide +kernel
theorem dX6_gather_57 : decode cX6_gather 57 = .ok (.return_, 1) := by decide +kernel
theorem dX6_fillBowlRows_0 : decode cX6_fillBowlRows 0 = .ok (.aload_n 0, 1) := by decide +kernel
theorem dX6_fillBowlRows_1 : decode cX6_fillBowlRows 1 = .ok (.getfield 36, 3) := by decide +kernel
theorem dX6_fillBowlRows_4 : decode cX6_fillBowlRows 4 = .ok (.getfield 57, 3) := by decide +kernel
theorem dX6_fillBowlRows_7 : decode cX6_fillBowlRows 7 = .ok (.istore_n 1, 1) := by decide +kernel
theorem dX6_fillBowlRows_8 : decode cX6_fillBowlRows 8 = .ok (.iconst 0, 1) := by decide +kernel
theorem dX6_fillBowlRows_9 : decode cX6_fillBowlRows 9 = .ok (.istore_n 2, 1) := by decide +kernel
theorem dX6_fillBowlRows_10 : decode cX6_fillBowlRows 10 = .ok (.iload_n 2, 1) := by decide +kernel
theorem dX6_fillBowlRows_11 : decode cX6_fillBowlRows 11 = .ok (.iload_n 1, 1) := by decide +kernel
theorem dX6_fillBowlRows_12 : decode cX6_fillBowlRows 12 = .ok (.if_icmp .ge 117, 3) := by decide +kernel
theorem dX6_fillBowlRows_15 : decode cX6_fillBowlRows 15 = .ok (.iconst 0, 1) := by decide +kernel
theorem dX6_fillBowlRows_16 : decode cX6_fillBowlRows 16 = .ok (.istore_n 3, 1) := by decide +kernel
theorem dX6_fillBowlRows_17 : decode cX6_fillBowlRows 17 = .ok (.iload_n 3, 1) := by decide +kernel
theorem dX6_fillBowlRows_18 : decode cX6_fillBowlRows 18 = .ok (.iload_n 1, 1) := by decide +kernel
theorem dX6_fillBowlRows_19 : decode cX6_fillBowlRows 19 = .ok (.if_icmp .ge 27, 3) := by decide +kernel
theorem dX6_fillBowlRows_22 : decode cX6_fillBowlRows 22 = .ok (.aload_n 0, 1) := by decide +kernel
theorem dX6_fillBowlRows_23 : decode cX6_fillBowlRows 23 = .ok (.getfield 27, 3) := by decide +kernel
theorem dX6_fillBowlRows_26 : decode cX6_fillBowlRows 26 = .ok (.iload_n 2, 1) := by decide +kernel
theorem dX6_fillBowlRows_27 : decode cX6_fillBowlRows 27 = .ok (.aaload, 1) := by decide +kernel
theorem dX6_fillBowlRows_28 : decode cX6_fillBowlRows 28 = .ok (.iload_n 3, 1) := by decide +kernel
theorem dX6_fillBowlRows_29 : decode cX6_fillBowlRows 29 = .ok (.aload_n 0, 1) := by decide +kernel
theorem dX6_fillBowlRows_30 : decode cX6_fillBowlRows 30 = .ok (.getfield 36, 3) := by decide +kernel
theorem dX6_fillBowlRows_33 : decode cX6_fillBowlRows 33 = .ok (.iload_n 2, 1) := by decide +kernel
theorem dX6_fillBowlRows_34 : decode cX6_fillBowlRows 34 = .ok (.iload_n 3, 1) := by decide +kernel
theorem dX6_fillBowlRows_35 : decode cX6_fillBowlRows 35 = .ok (.invokevirtual 82, 3) := by decide +kernel
theorem dX6_fillBowlRows_38 : decode cX6_fillBowlRows 38 = .ok (.i2l, 1) := by decide +kernel
theorem dX6_fillBowlRows_39 : decode cX6_fillBowlRows 39 = .ok (.lastore, 1) := by decide +kernel
theorem dX6_fillBowlRows_40 : decode cX6_fillBowlRows 40 = .ok (.iinc 3 1, 3) := by decide +kernel
theorem dX6_fillBowlRows_43 : decode cX6_fillBowlRows 43 = .ok (.goto (-26), 3) := by decide +kernel
theorem dX6_fillBowlRows_46 : decode cX6_fillBowlRows 46 = .ok (.iload_n 1, 1) := by decide +kernel
theorem dX6_fillBowlRows_47 : decode cX6_fillBowlRows 47 = .ok (.istore_n 3, 1) := by decide +kernel
theorem dX6_fillBowlRows_48 : decode cX6_fillBowlRows 48 = .ok (.iload_n 3, 1) := by decide +kernel
theorem dX6_fillBowlRows_49 : decode cX6_fillBowlRows 49 = .ok (.aload_n 0, 1) := by decide +kernel
theorem dX6_fillBowlRows_50 : decode cX6_fillBowlRows 50 = .ok (.getfield 79, 3) := by decide +kernel
theorem dX6_fillBowlRows_53 : decode cX6_fillBowlRows 53 = .ok (.if_icmp .ge 34, 3) := by decide +kernel
theorem dX6_fillBowlRows_56 : decode cX6_fillBowlRows 56 = .ok (.aload_n 0, 1) := by decide +kernel
theorem dX6_fillBowlRows_57 : decode cX6_fillBowlRows 57 = .ok (.getfield 27, 3) := by decide +kernel
theorem dX6_fillBowlRows_60 : decode cX6_fillBowlRows 60 = .ok (.iload_n 2, 1) := by decide +kernel
theorem dX6_fillBowlRows_61 : decode cX6_fillBowlRows 61 = .ok (.aaload, 1) := by decide +kernel
theorem dX6_fillBowlRows_62 : decode cX6_fillBowlRows 62 = .ok (.iload_n 3, 1) := by decide +kernel
theorem dX6_fillBowlRows_63 : decode cX6_fillBowlRows 63 = .ok (.aload_n 0, 1) := by decide +kernel
theorem dX6_fillBowlRows_64 : decode cX6_fillBowlRows 64 = .ok (.getfield 36, 3) := by decide +kernel
theorem dX6_fillBowlRows_67 : decode cX6_fillBowlRows 67 = .ok (.aload_n 0, 1) := by decide +kernel
theorem dX6_fillBowlRows_68 : decode cX6_fillBowlRows 68 = .ok (.getfield 30, 3) := by decide +kernel
theorem dX6_fillBowlRows_71 : decode cX6_fillBowlRows 71 = .ok (.iload_n 3, 1) := by decide +kernel
theorem dX6_fillBowlRows_72 : decode cX6_fillBowlRows 72 = .ok (.iload_n 1, 1) := by decide +kernel
theorem dX6_fillBowlRows_73 : decode cX6_fillBowlRows 73 = .ok (.isub, 1) := by decide +kernel
theorem dX6_fillBowlRows_74 : decode cX6_fillBowlRows 74 = .ok (.iaload, 1) := by decide +kernel
theorem dX6_fillBowlRows_75 : decode cX6_fillBowlRows 75 = .ok (.iload_n 2, 1) := by decide +kernel
theorem dX6_fillBowlRows_76 : decode cX6_fillBowlRows 76 = .ok (.invokevirtual 86, 3) := by decide +kernel
theorem dX6_fillBowlRows_79 : decode cX6_fillBowlRows 79 = .ok (.i2l, 1) := by decide +kernel
theorem dX6_fillBowlRows_80 : decode cX6_fillBowlRows 80 = .ok (.lastore, 1) := by decide +kernel
theorem dX6_fillBowlRows_81 : decode cX6_fillBowlRows 81 = .ok (.iinc 3 1, 3) := by decide +kernel
theorem dX6_fillBowlRows_84 : decode cX6_fillBowlRows 84 = .ok (.goto (-36), 3) := by decide +kernel
theorem dX6_fillBowlRows_87 : decode cX6_fillBowlRows 87 = .ok (.aload_n 0, 1) := by decide +kernel
theorem dX6_fillBowlRows_88 : decode cX6_fillBowlRows 88 = .ok (.getfield 27, 3) := by decide +kernel
theorem dX6_fillBowlRows_91 : decode cX6_fillBowlRows 91 = .ok (.iload_n 2, 1) := by decide +kernel
theorem dX6_fillBowlRows_92 : decode cX6_fillBowlRows 92 = .ok (.aaload, 1) := by decide +kernel
theorem dX6_fillBowlRows_93 : decode cX6_fillBowlRows 93 = .ok (.aload_n 0, 1) := by decide +kernel
theorem dX6_fillBowlRows_94 : decode cX6_fillBowlRows 94 = .ok (.getfield 79, 3) := by decide +kernel
theorem dX6_fillBowlRows_97 : decode cX6_fillBowlRows 97 = .ok (.aload_n 0, 1) := by decide +kernel
theorem dX6_fillBowlRows_98 : decode cX6_fillBowlRows 98 = .ok (.getfield 36, 3) := by decide +kernel
theorem dX6_fillBowlRows_101 : decode cX6_fillBowlRows 101 = .ok (.getfield 89, 3) := by decide +kernel
theorem dX6_fillBowlRows_104 : decode cX6_fillBowlRows 104 = .ok (.iload_n 2, 1) := by decide +kernel
theorem dX6_fillBowlRows_105 : decode cX6_fillBowlRows 105 = .ok (.iaload, 1) := by decide +kernel
theorem dX6_fillBowlRows_106 : decode cX6_fillBowlRows 106 = .ok (.ineg, 1) := by decide +kernel
theorem dX6_fillBowlRows_107 : decode cX6_fillBowlRows 107 = .ok (.i2l, 1) := by decide +kernel
theorem dX6_fillBowlRows_108 : decode cX6_fillBowlRows 108 = .ok (.lastore, 1) := by decide +kernel
theorem dX6_fillBowlRows_109 : decode cX6_fillBowlRows 109 = .ok (.aload_n 0, 1) := by decide +kernel
theorem dX6_fillBowlRows_110 : decode cX6_fillBowlRows 110 = .ok (.getfield 27, 3) := by decide +kernel
theorem dX6_fillBowlRows_113 : decode cX6_fillBowlRows 113 = .ok (.iload_n 2, 1) := by decide +kernel
theorem dX6_fillBowlRows_114 : decode cX6_fillBowlRows 114 = .ok (.aaload, 1) := by decide +kernel
theorem dX6_fillBowlRows_115 : decode cX6_fillBowlRows 115 = .ok (.aload_n 0, 1) := by decide +kernel
theorem dX6_fillBowlRows_116 : decode cX6_fillBowlRows 116 = .ok (.getfield 79, 3) := by decide +kernel
theorem dX6_fillBowlRows_119 : decode cX6_fillBowlRows 119 = .ok (.iconst 1, 1) := by decide +kernel
theorem dX6_fillBowlRows_120 : decode cX6_fillBowlRows 120 = .ok (.iadd, 1) := by decide +kernel
theorem dX6_fillBowlRows_121 : decode cX6_fillBowlRows 121 = .ok (.lconst 0, 1) := by decide +kernel
theorem dX6_fillBowlRows_122 : decode cX6_fillBowlRows 122 = .ok (.lastore, 1) := by decide +kernel
theorem dX6_fillBowlRows_123 : decode cX6_fillBowlRows 123 = .ok (.iinc 2 1, 3) := by decide +kernel
theorem dX6_fillBowlRows_126 : decode cX6_fillBowlRows 126 = .ok (.goto (-116), 3) := by decide +kernel
theorem dX6_fillBowlRows_129 : decode cX6_fillBowlRows 129 = .ok (.return_, 1) := by decide +kernel
theorem dX6_fillLineRows_0 : decode cX6_fillLineRows 0 = .ok (.aload_n 0, 1) := by decide +kernel
theorem dX6_fillLineRows_1 : decode cX6_fillLineRows 1 = .ok (.getfield 36, 3) := by decide +kernel
theorem dX6_fillLineRows_4 : decode cX6_fillLineRows 4 = .ok (.getfield 57, 3) := by decide +kernel
theorem dX6_fillLineRows_7 : decode cX6_fillLineRows 7 = .ok (.istore_n 1, 1) := by decide +kernel
theorem dX6_fillLineRows_8 : decode cX6_fillLineRows 8 = .ok (.iload_n 1, 1) := by decide +kernel
theorem dX6_fillLineRows_9 : decode cX6_fillLineRows 9 = .ok (.istore_n 2, 1) := by decide +kernel
theorem dX6_fillLineRows_10 : decode cX6_fillLineRows 10 = .ok (.iload_n 2, 1) := by decide +kernel
theorem dX6_fillLineRows_11 : decode cX6_fillLineRows 11 = .ok (.aload_n 0, 1) := by decide +kernel
theorem dX6_fillLineRows_12 : decode cX6_fillLineRows 12 = .ok (.getfield 79, 3) := by decide +kernel
theorem dX6_fillLineRows_15 : decode cX6_fillLineRows 15 = .ok (.if_icmp .ge 106, 3) := by decide +kernel
theorem dX6_fillLineRows_18 : decode cX6_fillLineRows 18 = .ok (.aload_n 0, 1) := by decide +kernel
theorem dX6_fillLineRows_19 : decode cX6_fillLineRows 19 = .ok (.getfield 30, 3) := by decide +kernel
theorem dX6_fillLineRows_22 : decode cX6_fillLineRows 22 = .ok (.iload_n 2, 1) := by decide +kernel
theorem dX6_fillLineRows_23 : decode cX6_fillLineRows 23 = .ok (.iload_n 1, 1) := by decide +kernel
theorem dX6_fillLineRows_24 : decode cX6_fillLineRows 24 = .ok (.isub, 1) := by decide +kernel
theorem dX6_fillLineRows_25 : decode cX6_fillLineRows 25 = .ok (.iaload, 1) := by decide +kernel
theorem dX6_fillLineRows_26 : decode cX6_fillLineRows 26 = .ok (.istore_n 3, 1) := by decide +kernel
theorem dX6_fillLineRows_27 : decode cX6_fillLineRows 27 = .ok (.aload_n 0, 1) := by decide +kernel
theorem dX6_fillLineRows_28 : decode cX6_fillLineRows 28 = .ok (.getfield 27, 3) := by decide +kernel
theorem dX6_fillLineRows_31 : decode cX6_fillLineRows 31 = .ok (.iload_n 2, 1) := by decide +kernel
theorem dX6_fillLineRows_32 : decode cX6_fillLineRows 32 = .ok (.aaload, 1) := by decide +kernel
theorem dX6_fillLineRows_33 : decode cX6_fillLineRows 33 = .ok (.lconst 0, 1) := by decide +kernel
theorem dX6_fillLineRows_34 : decode cX6_fillLineRows 34 = .ok (.invokestatic 92, 3) := by decide +kernel
theorem dX6_fillLineRows_37 : decode cX6_fillLineRows 37 = .ok (.iconst 0, 1) := by decide +kernel
theorem dX6_fillLineRows_38 : decode cX6_fillLineRows 38 = .ok (.istore 4, 2) := by decide +kernel
theorem dX6_fillLineRows_40 : decode cX6_fillLineRows 40 = .ok (.iload 4, 2) := by decide +kernel
theorem dX6_fillLineRows_42 : decode cX6_fillLineRows 42 = .ok (.iload_n 1, 1) := by decide +kernel
theorem dX6_fillLineRows_43 : decode cX6_fillLineRows 43 = .ok (.if_icmp .ge 29, 3) := by decide +kernel
theorem dX6_fillLineRows_46 : decode cX6_fillLineRows 46 = .ok (.aload_n 0, 1) := by decide +kernel
theorem dX6_fillLineRows_47 : decode cX6_fillLineRows 47 = .ok (.getfield 27, 3) := by decide +kernel
theorem dX6_fillLineRows_50 : decode cX6_fillLineRows 50 = .ok (.iload_n 2, 1) := by decide +kernel
theorem dX6_fillLineRows_51 : decode cX6_fillLineRows 51 = .ok (.aaload, 1) := by decide +kernel
theorem dX6_fillLineRows_52 : decode cX6_fillLineRows 52 = .ok (.iload 4, 2) := by decide +kernel
theorem dX6_fillLineRows_54 : decode cX6_fillLineRows 54 = .ok (.aload_n 0, 1) := by decide +kernel
theorem dX6_fillLineRows_55 : decode cX6_fillLineRows 55 = .ok (.getfield 36, 3) := by decide +kernel
theorem dX6_fillLineRows_58 : decode cX6_fillLineRows 58 = .ok (.iload_n 3, 1) := by decide +kernel
theorem dX6_fillLineRows_59 : decode cX6_fillLineRows 59 = .ok (.iload 4, 2) := by decide +kernel
theorem dX6_fillLineRows_61 : decode cX6_fillLineRows 61 = .ok (.invokevirtual 86, 3) := by decide +kernel
theorem dX6_fillLineRows_64 : decode cX6_fillLineRows 64 = .ok (.i2l, 1) := by decide +kernel
theorem dX6_fillLineRows_65 : decode cX6_fillLineRows 65 = .ok (.lastore, 1) := by decide +kernel
theorem dX6_fillLineRows_66 : decode cX6_fillLineRows 66 = .ok (.iinc 4 1, 3) := by decide +kernel
theorem dX6_fillLineRows_69 : decode cX6_fillLineRows 69 = .ok (.goto (-29), 3) := by decide +kernel
theorem dX6_fillLineRows_72 : decode cX6_fillLineRows 72 = .ok (.aload_n 0, 1) := by decide +kernel
theorem dX6_fillLineRows_73 : decode cX6_fillLineRows 73 = .ok (.getfield 27, 3) := by decide +kernel
theorem dX6_fillLineRows_76 : decode cX6_fillLineRows 76 = .ok (.iload_n 2, 1) := by decide +kernel
theorem dX6_fillLineRows_77 : decode cX6_fillLineRows 77 = .ok (.aaload, 1) := by decide +kernel
theorem dX6_fillLineRows_78 : decode cX6_fillLineRows 78 = .ok (.aload_n 0, 1) := by decide +kernel
theorem dX6_fillLineRows_79 : decode cX6_fillLineRows 79 = .ok (.getfield 79, 3) := by decide +kernel
theorem dX6_fillLineRows_82 : decode cX6_fillLineRows 82 = .ok (.aload_n 0, 1) := by decide +kernel
theorem dX6_fillLineRows_83 : decode cX6_fillLineRows 83 = .ok (.getfield 36, 3) := by decide +kernel
theorem dX6_fillLineRows_86 : decode cX6_fillLineRows 86 = .ok (.iload_n 3, 1) := by decide +kernel
theorem dX6_fillLineRows_87 : decode cX6_fillLineRows 87 = .ok (.iconst 0, 1) := by decide +kernel
theorem dX6_fillLineRows_88 : decode cX6_fillLineRows 88 = .ok (.invokevirtual 98, 3) := by decide +kernel
theorem dX6_fillLineRows_91 : decode cX6_fillLineRows 91 = .ok (.i2l, 1) := by decide +kernel
theorem dX6_fillLineRows_92 : decode cX6_fillLineRows 92 = .ok (.lastore, 1) := by decide +kernel
theorem dX6_fillLineRows_93 : decode cX6_fillLineRows 93 = .ok (.aload_n 0, 1) := by decide +kernel
theorem dX6_fillLineRows_94 : decode cX6_fillLineRows 94 = .ok (.getfield 27, 3) := by decide +kernel
theorem dX6_fillLineRows_97 : decode cX6_fillLineRows 97 = .ok (.iload_n 2, 1) := by decide +kernel
theorem dX6_fillLineRows_98 : decode cX6_fillLineRows 98 = .ok (.aaload, 1) := by decide +kernel
theorem dX6_fillLineRows_99 : decode cX6_fillLineRows 99 = .ok (.aload_n 0, 1) := by decide +kernel
theorem dX6_fillLineRows_100 : decode cX6_fillLineRows 100 = .ok (.getfield 79, 3) := by decide +kernel
theorem dX6_fillLineRows_103 : decode cX6_fillLineRows 103 = .ok (.iconst 1, 1) := by decide +kernel
theorem dX6_fillLineRows_104 : decode cX6_fillLineRows 104 = .ok (.iadd, 1) := by decide +kernel
theorem dX6_fillLineRows_105 : decode cX6_fillLineRows 105 = .ok (.aload_n 0, 1) := by decide +kernel
theorem dX6_fillLineRows_106 : decode cX6_fillLineRows 106 = .ok (.getfield 36, 3) := by decide +kernel
theorem dX6_fillLineRows_109 : decode cX6_fillLineRows 109 = .ok (.iload_n 3, 1) := by decide +kernel
theorem dX6_fillLineRows_110 : decode cX6_fillLineRows 110 = .ok (.invokevirtual 101, 3) := by decide +kernel
theorem dX6_fillLineRows_113 : decode cX6_fillLineRows 113 = .ok (.i2l, 1) := by decide +kernel
theorem dX6_fillLineRows_114 : decode cX6_fillLineRows 114 = .ok (.lastore, 1) := by decide +kernel
theorem dX6_fillLineRows_115 : decode cX6_fillLineRows 115 = .ok (.iinc 2 1, 3) := by decide +kernel
theorem dX6_fillLineRows_118 : decode cX6_fillLineRows 118 = .ok (.goto (-108), 3) := by decide +kernel
theorem dX6_fillLineRows_121 : decode cX6_fillLineRows 121 = .ok (.return_, 1) := by decide +kernel
theorem dX6_eliminate_0 : decode cX6_eliminate 0 = .ok (.lconst 1, 1) := by decide +kernel
theorem dX6_eliminate_1 : decode cX6_eliminate 1 = .ok (.lstore_n 1, 1) := by decide +kernel
theorem dX6_eliminate_2 : decode cX6_eliminate 2 = .ok (.iconst 0, 1) := by decide +kernel
theorem dX6_eliminate_3 : decode cX6_eliminate 3 = .ok (.istore_n 3, 1) := by decide +kernel
theorem dX6_eliminate_4 : decode cX6_eliminate 4 = .ok (.iload_n 3, 1) := by decide +kernel
theorem dX6_eliminate_5 : decode cX6_eliminate 5 = .ok (.aload_n 0, 1) := by decide +kernel
theorem dX6_eliminate_6 : decode cX6_eliminate 6 = .ok (.getfield 79, 3) := by decide +kernel
theorem dX6_eliminate_9 : decode cX6_eliminate 9 = .ok (.if_icmp .ge 74, 3) := by decide +kernel
theorem dX6_eliminate_12 : decode cX6_eliminate 12 = .ok (.aload_n 0, 1) := by decide +kernel
theorem dX6_eliminate_13 : decode cX6_eliminate 13 = .ok (.getfield 27, 3) := by decide +kernel
theorem dX6_eliminate_16 : decode cX6_eliminate 16 = .ok (.iload_n 3, 1) := by decide +kernel
theorem dX6_eliminate_17 : decode cX6_eliminate 17 = .ok (.aaload, 1) := by decide +kernel
theorem dX6_eliminate_18 : decode cX6_eliminate 18 = .ok (.iload_n 3, 1) := by decide +kernel
theorem dX6_eliminate_19 : decode cX6_eliminate 19 = .ok (.laload, 1) := by decide +kernel
theorem dX6_eliminate_20 : decode cX6_eliminate 20 = .ok (.lstore 4, 2) := by decide +kernel
theorem dX6_eliminate_22 : decode cX6_eliminate 22 = .ok (.lload 4, 2) := by decide +kernel
theorem dX6_eliminate_24 : decode cX6_eliminate 24 = .ok (.lconst 0, 1) := by decide +kernel
theorem dX6_eliminate_25 : decode cX6_eliminate 25 = .ok (.lcmp, 1) := by decide +kernel
theorem dX6_eliminate_26 : decode cX6_eliminate 26 = .ok (.ifCond .ne 5, 3) := by decide +kernel
theorem dX6_eliminate_29 : decode cX6_eliminate 29 = .ok (.iconst 0, 1) := by decide +kernel
theorem dX6_eliminate_30 : decode cX6_eliminate 30 = .ok (.ireturn, 1) := by decide +kernel
theorem dX6_eliminate_31 : decode cX6_eliminate 31 = .ok (.iconst 0, 1) := by decide +kernel
theorem dX6_eliminate_32 : decode cX6_eliminate 32 = .ok (.istore 6, 2) := by decide +kernel
theorem dX6_eliminate_34 : decode cX6_eliminate 34 = .ok (.iload 6, 2) := by decide +kernel
theorem dX6_eliminate_36 : decode cX6_eliminate 36 = .ok (.aload_n 0, 1) := by decide +kernel
theorem dX6_eliminate_37 : decode cX6_eliminate 37 = .ok (.getfield 79, 3) := by decide +kernel
theorem dX6_eliminate_40 : decode cX6_eliminate 40 = .ok (.if_icmp .ge 34, 3) := by decide +kernel
theorem dX6_eliminate_43 : decode cX6_eliminate 43 = .ok (.iload 6, 2) := by decide +kernel
theorem dX6_eliminate_45 : decode cX6_eliminate 45 = .ok (.iload_n 3, 1) := by decide +kernel
theorem dX6_eliminate_46 : decode cX6_eliminate 46 = .ok (.if_icmp .eq 22, 3) := by decide +kernel
theorem dX6_eliminate_49 : decode cX6_eliminate 49 = .ok (.aload_n 0, 1) := by decide +kernel
theorem dX6_eliminate_50 : decode cX6_eliminate 50 = .ok (.aload_n 0, 1) := by decide +kernel
theorem dX6_eliminate_51 : decode cX6_eliminate 51 = .ok (.getfield 27, 3) := by decide +kernel
theorem dX6_eliminate_54 : decode cX6_eliminate 54 = .ok (.iload 6, 2) := by decide +kernel
theorem dX6_eliminate_56 : decode cX6_eliminate 56 = .ok (.aaload, 1) := by decide +kernel
theorem dX6_eliminate_57 : decode cX6_eliminate 57 = .ok (.aload_n 0, 1) := by decide +kernel
theorem dX6_eliminate_58 : decode cX6_eliminate 58 = .ok (.getfield 27, 3) := by decide +kernel
theorem dX6_eliminate_61 : decode cX6_eliminate 61 = .ok (.iload_n 3, 1) := by decide +kernel
theorem dX6_eliminate_62 : decode cX6_eliminate 62 = .ok (.aaload, 1) := by decide +kernel
theorem dX6_eliminate_63 : decode cX6_eliminate 63 = .ok (.iload_n 3, 1) := by decide +kernel
theorem dX6_eliminate_64 : decode cX6_eliminate 64 = .ok (.lload_n 1, 1) := by decide +kernel
theorem dX6_eliminate_65 : decode cX6_eliminate 65 = .ok (.invokevirtual 104, 3) := by decide +kernel
theorem dX6_eliminate_68 : decode cX6_eliminate 68 = .ok (.iinc 6 1, 3) := by decide +kernel
theorem dX6_eliminate_71 : decode cX6_eliminate 71 = .ok (.goto (-37), 3) := by decide +kernel
theorem dX6_eliminate_74 : decode cX6_eliminate 74 = .ok (.lload 4, 2) := by decide +kernel
theorem dX6_eliminate_76 : decode cX6_eliminate 76 = .ok (.lstore_n 1, 1) := by decide +kernel
theorem dX6_eliminate_77 : decode cX6_eliminate 77 = .ok (.iinc 3 1, 3) := by decide +kernel
theorem dX6_eliminate_80 : decode cX6_eliminate 80 = .ok (.goto (-76), 3) := by decide +kernel
theorem dX6_eliminate_83 : decode cX6_eliminate 83 = .ok (.aload_n 0, 1) := by decide +kernel
theorem dX6_eliminate_84 : decode cX6_eliminate 84 = .ok (.lload_n 1, 1) := by decide +kernel
theorem dX6_eliminate_85 : decode cX6_eliminate 85 = .ok (.putfield 108, 3) := by decide +kernel
theorem dX6_eliminate_88 : decode cX6_eliminate 88 = .ok (.iconst 1, 1) := by decide +kernel
theorem dX6_eliminate_89 : decode cX6_eliminate 89 = .ok (.ireturn, 1) := by decide +kernel
theorem dX6_clearRow_0 : decode cX6_clearRow 0 = .ok (.aload_n 2, 1) := by decide +kernel
theorem dX6_clearRow_1 : decode cX6_clearRow 1 = .ok (.iload_n 3, 1) := by decide +kernel
theorem dX6_clearRow_2 : decode cX6_clearRow 2 = .ok (.laload, 1) := by decide +kernel
theorem dX6_clearRow_3 : decode cX6_clearRow 3 = .ok (.lstore 6, 2) := by decide +kernel
theorem dX6_clearRow_5 : decode cX6_clearRow 5 = .ok (.aload_n 1, 1) := by decide +kernel
theorem dX6_clearRow_6 : decode cX6_clearRow 6 = .ok (.iload_n 3, 1) := by decide +kernel
theorem dX6_clearRow_7 : decode cX6_clearRow 7 = .ok (.laload, 1) := by decide +kernel
theorem dX6_clearRow_8 : decode cX6_clearRow 8 = .ok (.lstore 8, 2) := by decide +kernel
theorem dX6_clearRow_10 : decode cX6_clearRow 10 = .ok (.iload_n 3, 1) := by decide +kernel
theorem dX6_clearRow_11 : decode cX6_clearRow 11 = .ok (.iconst 1, 1) := by decide +kernel
theorem dX6_clearRow_12 : decode cX6_clearRow 12 = .ok (.iadd, 1) := by decide +kernel
theorem dX6_clearRow_13 : decode cX6_clearRow 13 = .ok (.istore 10, 2) := by decide +kernel
theorem dX6_clearRow_15 : decode cX6_clearRow 15 = .ok (.iload 10, 2) := by decide +kernel
theorem dX6_clearRow_17 : decode cX6_clearRow 17 = .ok (.aload_n 0, 1) := by decide +kernel
theorem dX6_clearRow_18 : decode cX6_clearRow 18 = .ok (.getfield 79, 3) := by decide +kernel
theorem dX6_clearRow_21 : decode cX6_clearRow 21 = .ok (.iconst 2, 1) := by decide +kernel
theorem dX6_clearRow_22 : decode cX6_clearRow 22 = .ok (.iadd, 1) := by decide +kernel
theorem dX6_clearRow_23 : decode cX6_clearRow 23 = .ok (.if_icmp .ge 38, 3) := by decide +kernel
theorem dX6_clearRow_26 : decode cX6_clearRow 26 = .ok (.lload 4, 2) := by decide +kernel
theorem dX6_clearRow_28 : decode cX6_clearRow 28 = .ok (.lconst 0, 1) := by decide +kernel
theorem dX6_clearRow_29 : decode cX6_clearRow 29 = .ok (.lcmp, 1) := by decide +kernel
theorem dX6_clearRow_30 : decode cX6_clearRow 30 = .ok (.ifCond .eq 31, 3) := by decide +kernel
theorem dX6_clearRow_33 : decode cX6_clearRow 33 = .ok (.aload_n 1, 1) := by decide +kernel
theorem dX6_clearRow_34 : decode cX6_clearRow 34 = .ok (.iload 10, 2) := by decide +kernel
theorem dX6_clearRow_36 : decode cX6_clearRow 36 = .ok (.lload 6, 2) := by decide +kernel
theorem dX6_clearRow_38 : decode cX6_clearRow 38 = .ok (.aload_n 1, 1) := by decide +kernel
theorem dX6_clearRow_39 : decode cX6_clearRow 39 = .ok (.iload 10, 2) := by decide +kernel
theorem dX6_clearRow_41 : decode cX6_clearRow 41 = .ok (.laload, 1) := by decide +kernel
theorem dX6_clearRow_42 : decode cX6_clearRow 42 = .ok (.lmul, 1) := by decide +kernel
theorem dX6_clearRow_43 : decode cX6_clearRow 43 = .ok (.lload 8, 2) := by decide +kernel
theorem dX6_clearRow_45 : decode cX6_clearRow 45 = .ok (.aload_n 2, 1) := by decide +kernel
theorem dX6_clearRow_46 : decode cX6_clearRow 46 = .ok (.iload 10, 2) := by decide +kernel
theorem dX6_clearRow_48 : decode cX6_clearRow 48 = .ok (.laload, 1) := by decide +kernel
theorem dX6_clearRow_49 : decode cX6_clearRow 49 = .ok (.lmul, 1) := by decide +kernel
theorem dX6_clearRow_50 : decode cX6_clearRow 50 = .ok (.lsub, 1) := by decide +kernel
theorem dX6_clearRow_51 : decode cX6_clearRow 51 = .ok (.lload 4, 2) := by decide +kernel
theorem dX6_clearRow_53 : decode cX6_clearRow 53 = .ok (.ldiv, 1) := by decide +kernel
theorem dX6_clearRow_54 : decode cX6_clearRow 54 = .ok (.lastore, 1) := by decide +kernel
theorem dX6_clearRow_55 : decode cX6_clearRow 55 = .ok (.iinc 10 1, 3) := by decide +kernel
theorem dX6_clearRow_58 : decode cX6_clearRow 58 = .ok (.goto (-43), 3) := by decide +kernel
theorem dX6_clearRow_61 : decode cX6_clearRow 61 = .ok (.return_, 1) := by decide +kernel
theorem dX6_layAt_0 : decode cX6_layAt 0 = .ok (.aload_n 0, 1) := by decide +kernel
theorem dX6_layAt_1 : decode cX6_layAt 1 = .ok (.iload_n 1, 1) := by decide +kernel
theorem dX6_layAt_2 : decode cX6_layAt 2 = .ok (.putfield 112, 3) := by decide +kernel
theorem dX6_layAt_5 : decode cX6_layAt 5 = .ok (.aload_n 0, 1) := by decide +kernel
theorem dX6_layAt_6 : decode cX6_layAt 6 = .ok (.getfield 108, 3) := by decide +kernel
theorem dX6_layAt_9 : decode cX6_layAt 9 = .ok (.lconst 0, 1) := by decide +kernel
theorem dX6_layAt_10 : decode cX6_layAt 10 = .ok (.lcmp, 1) := by decide +kernel
theorem dX6_layAt_11 : decode cX6_layAt 11 = .ok (.ifCond .ge 7, 3) := by decide +kernel
theorem dX6_layAt_14 : decode cX6_layAt 14 = .ok (.iconst (-1), 1) := by decide +kernel
theorem dX6_layAt_15 : decode cX6_layAt 15 = .ok (.goto 4, 3) := by decide +kernel
theorem dX6_layAt_18 : decode cX6_layAt 18 = .ok (.iconst 1, 1) := by decide +kernel
theorem dX6_layAt_19 : decode cX6_layAt 19 = .ok (.istore_n 2, 1) := by decide +kernel
theorem dX6_layAt_20 : decode cX6_layAt 20 = .ok (.aload_n 0, 1) := by decide +kernel
theorem dX6_layAt_21 : decode cX6_layAt 21 = .ok (.getfield 12, 3) := by decide +kernel
theorem dX6_layAt_24 : decode cX6_layAt 24 = .ok (.iload_n 2, 1) := by decide +kernel
theorem dX6_layAt_25 : decode cX6_layAt 25 = .ok (.i2l, 1) := by decide +kernel
theorem dX6_layAt_26 : decode cX6_layAt 26 = .ok (.aload_n 0, 1) := by decide +kernel
theorem dX6_layAt_27 : decode cX6_layAt 27 = .ok (.getfield 108, 3) := by decide +kernel
theorem dX6_layAt_30 : decode cX6_layAt 30 = .ok (.lmul, 1) := by decide +kernel
theorem dX6_layAt_31 : decode cX6_layAt 31 = .ok (.putfield 115, 3) := by decide +kernel
theorem dX6_layAt_34 : decode cX6_layAt 34 = .ok (.aload_n 0, 1) := by decide +kernel
theorem dX6_layAt_35 : decode cX6_layAt 35 = .ok (.getfield 18, 3) := by decide +kernel
theorem dX6_layAt_38 : decode cX6_layAt 38 = .ok (.aload_n 0, 1) := by decide +kernel
theorem dX6_layAt_39 : decode cX6_layAt 39 = .ok (.getfield 12, 3) := by decide +kernel
theorem dX6_layAt_42 : decode cX6_layAt 42 = .ok (.getfield 115, 3) := by decide +kernel
theorem dX6_layAt_45 : decode cX6_layAt 45 = .ok (.putfield 115, 3) := by decide +kernel
theorem dX6_layAt_48 : decode cX6_layAt 48 = .ok (.aload_n 0, 1) := by decide +kernel
theorem dX6_layAt_49 : decode cX6_layAt 49 = .ok (.getfield 12, 3) := by decide +kernel
theorem dX6_layAt_52 : decode cX6_layAt 52 = .ok (.getfield 116, 3) := by decide +kernel
theorem dX6_layAt_55 : decode cX6_layAt 55 = .ok (.lconst 0, 1) := by decide +kernel
theorem dX6_layAt_56 : decode cX6_layAt 56 = .ok (.invokestatic 92, 3) := by decide +kernel
theorem dX6_layAt_59 : decode cX6_layAt 59 = .ok (.aload_n 0, 1) := by decide +kernel
theorem dX6_layAt_60 : decode cX6_layAt 60 = .ok (.getfield 18, 3) := by decide +kernel
theorem dX6_layAt_63 : decode cX6_layAt 63 = .ok (.getfield 116, 3) := by decide +kernel
theorem dX6_layAt_66 : decode cX6_layAt 66 = .ok (.lconst 0, 1) := by decide +kernel
theorem dX6_layAt_67 : decode cX6_layAt 67 = .ok (.invokestatic 92, 3) := by decide +kernel
theorem dX6_layAt_70 : decode cX6_layAt 70 = .ok (.aload_n 0, 1) := by decide +kernel
theorem dX6_layAt_71 : decode cX6_layAt 71 = .ok (.getfield 36, 3) := by decide +kernel
theorem dX6_layAt_74 : decode cX6_layAt 74 = .ok (.getfield 57, 3) := by decide +kernel
theorem dX6_layAt_77 : decode cX6_layAt 77 = .ok (.istore_n 3, 1) := by decide +kernel
theorem dX6_layAt_78 : decode cX6_layAt 78 = .ok (.iconst 0, 1) := by decide +kernel
theorem dX6_layAt_79 : decode cX6_layAt 79 = .ok (.istore 4, 2) := by decide +kernel
theorem dX6_layAt_81 : decode cX6_layAt 81 = .ok (.iload 4, 2) := by decide +kernel
theorem dX6_layAt_83 : decode cX6_layAt 83 = .ok (.aload_n 0, 1) := by decide +kernel
theorem dX6_layAt_84 : decode cX6_layAt 84 = .ok (.getfield 79, 3) := by decide +kernel
theorem dX6_layAt_87 : decode cX6_layAt 87 = .ok (.if_icmp .ge 122, 3) := by decide +kernel
theorem dX6_layAt_90 : decode cX6_layAt 90 = .ok (.iload_n 2, 1) := by decide +kernel
theorem dX6_layAt_91 : decode cX6_layAt 91 = .ok (.i2l, 1) := by decide +kernel
theorem dX6_layAt_92 : decode cX6_layAt 92 = .ok (.aload_n 0, 1) := by decide +kernel
theorem dX6_layAt_93 : decode cX6_layAt 93 = .ok (.getfield 27, 3) := by decide +kernel
theorem dX6_layAt_96 : decode cX6_layAt 96 = .ok (.iload 4, 2) := by decide +kernel
theorem dX6_layAt_98 : decode cX6_layAt 98 = .ok (.aaload, 1) := by decide +kernel
theorem dX6_layAt_99 : decode cX6_layAt 99 = .ok (.aload_n 0, 1) := by decide +kernel
theorem dX6_layAt_100 : decode cX6_layAt 100 = .ok (.getfield 79, 3) := by decide +kernel
theorem dX6_layAt_103 : decode cX6_layAt 103 = .ok (.iconst 1, 1) := by decide +kernel
theorem dX6_layAt_104 : decode cX6_layAt 104 = .ok (.iadd, 1) := by decide +kernel
theorem dX6_layAt_105 : decode cX6_layAt 105 = .ok (.laload, 1) := by decide +kernel
theorem dX6_layAt_106 : decode cX6_layAt 106 = .ok (.lmul, 1) := by decide +kernel
theorem dX6_layAt_107 : decode cX6_layAt 107 = .ok (.lstore 5, 2) := by decide +kernel
theorem dX6_layAt_109 : decode cX6_layAt 109 = .ok (.iload_n 2, 1) := by decide +kernel
theorem dX6_layAt_110 : decode cX6_layAt 110 = .ok (.i2l, 1) := by decide +kernel
theorem dX6_layAt_111 : decode cX6_layAt 111 = .ok (.aload_n 0, 1) := by decide +kernel
theorem dX6_layAt_112 : decode cX6_layAt 112 = .ok (.getfield 27, 3) := by decide +kernel
theorem dX6_layAt_115 : decode cX6_layAt 115 = .ok (.iload 4, 2) := by decide +kernel
theorem dX6_layAt_117 : decode cX6_layAt 117 = .ok (.aaload, 1) := by decide +kernel
theorem dX6_layAt_118 : decode cX6_layAt 118 = .ok (.aload_n 0, 1) := by decide +kernel
theorem dX6_layAt_119 : decode cX6_layAt 119 = .ok (.getfield 79, 3) := by decide +kernel
theorem dX6_layAt_122 : decode cX6_layAt 122 = .ok (.laload, 1) := by decide +kernel
theorem dX6_layAt_123 : decode cX6_layAt 123 = .ok (.lmul, 1) := by decide +kernel
theorem dX6_layAt_124 : decode cX6_layAt 124 = .ok (.iload_n 1, 1) := by decide +kernel
theorem dX6_layAt_125 : decode cX6_layAt 125 = .ok (.i2l, 1) := by decide +kernel
theorem dX6_layAt_126 : decode cX6_layAt 126 = .ok (.lload 5, 2) := by decide +kernel
theorem dX6_layAt_128 : decode cX6_layAt 128 = .ok (.lmul, 1) := by decide +kernel
theorem dX6_layAt_129 : decode cX6_layAt 129 = .ok (.ladd, 1) := by decide +kernel
theorem dX6_layAt_130 : decode cX6_layAt 130 = .ok (.lstore 7, 2) := by decide +kernel
theorem dX6_layAt_132 : decode cX6_layAt 132 = .ok (.iload 4, 2) := by decide +kernel
theorem dX6_layAt_134 : decode cX6_layAt 134 = .ok (.iload_n 3, 1) := by decide +kernel
theorem dX6_layAt_135 : decode cX6_layAt 135 = .ok (.if_icmp .ge 30, 3) := by decide +kernel
theorem dX6_layAt_138 : decode cX6_layAt 138 = .ok (.aload_n 0, 1) := by decide +kernel
theorem dX6_layAt_139 : decode cX6_layAt 139 = .ok (.getfield 12, 3) := by decide +kernel
theorem dX6_layAt_142 : decode cX6_layAt 142 = .ok (.getfield 120, 3) := by decide +kernel
theorem dX6_layAt_145 : decode cX6_layAt 145 = .ok (.iload 4, 2) := by decide +kernel
theorem dX6_layAt_147 : decode cX6_layAt 147 = .ok (.lload 7, 2) := by decide +kernel
theorem dX6_layAt_149 : decode cX6_layAt 149 = .ok (.lastore, 1) := by decide +kernel
theorem dX6_layAt_150 : decode cX6_layAt 150 = .ok (.aload_n 0, 1) := by decide +kernel
theorem dX6_layAt_151 : decode cX6_layAt 151 = .ok (.getfield 18, 3) := by decide +kernel
theorem dX6_layAt_154 : decode cX6_layAt 154 = .ok (.getfield 120, 3) := by decide +kernel
theorem dX6_layAt_157 : decode cX6_layAt 157 = .ok (.iload 4, 2) := by decide +kernel
theorem dX6_layAt_159 : decode cX6_layAt 159 = .ok (.lload 5, 2) := by decide +kernel
theorem dX6_layAt_161 : decode cX6_layAt 161 = .ok (.lastore, 1) := by decide +kernel
theorem dX6_layAt_162 : decode cX6_layAt 162 = .ok (.goto 41, 3) := by decide +kernel
theorem dX6_layAt_165 : decode cX6_layAt 165 = .ok (.aload_n 0, 1) := by decide +kernel
theorem dX6_layAt_166 : decode cX6_layAt 166 = .ok (.getfield 12, 3) := by decide +kernel
theorem dX6_layAt_169 : decode cX6_layAt 169 = .ok (.getfield 116, 3) := by decide +kernel
theorem dX6_layAt_172 : decode cX6_layAt 172 = .ok (.aload_n 0, 1) := by decide +kernel
theorem dX6_layAt_173 : decode cX6_layAt 173 = .ok (.getfield 30, 3) := by decide +kernel
theorem dX6_layAt_176 : decode cX6_layAt 176 = .ok (.iload 4, 2) := by decide +kernel
theorem dX6_layAt_178 : decode cX6_layAt 178 = .ok (.iload_n 3, 1) := by decide +kernel
theorem dX6_layAt_179 : decode cX6_layAt 179 = .ok (.isub, 1) := by decide +kernel
theorem dX6_layAt_180 : decode cX6_layAt 180 = .ok (.iaload, 1) := by decide +kernel
theorem dX6_layAt_181 : decode cX6_layAt 181 = .ok (.lload 7, 2) := by decide +kernel
theorem dX6_layAt_183 : decode cX6_layAt 183 = .ok (.lastore, 1) := by decide +kernel
theorem dX6_layAt_184 : decode cX6_layAt 184 = .ok (.aload_n 0, 1) := by decide +kernel
theorem dX6_layAt_185 : decode cX6_layAt 185 = .ok (.getfield 18, 3) := by decide +kernel
theorem dX6_layAt_188 : decode cX6_layAt 188 = .ok (.getfield 116, 3) := by decide +kernel
theorem dX6_layAt_191 : decode cX6_layAt 191 = .ok (.aload_n 0, 1) := by decide +kernel
theorem dX6_layAt_192 : decode cX6_layAt 192 = .ok (.getfield 30, 3) := by decide +kernel
theorem dX6_layAt_195 : decode cX6_layAt 195 = .ok (.iload 4, 2) := by decide +kernel
theorem dX6_layAt_197 : decode cX6_layAt 197 = .ok (.iload_n 3, 1) := by decide +kernel
theorem dX6_layAt_198 : decode cX6_layAt 198 = .ok (.isub, 1) := by decide +kernel
theorem dX6_layAt_199 : decode cX6_layAt 199 = .ok (.iaload, 1) := by decide +kernel
theorem dX6_layAt_200 : decode cX6_layAt 200 = .ok (.lload 5, 2) := by decide +kernel
theorem dX6_layAt_202 : decode cX6_layAt 202 = .ok (.lastore, 1) := by decide +kernel
theorem dX6_layAt_203 : decode cX6_layAt 203 = .ok (.iinc 4 1, 3) := by decide +kernel
theorem dX6_layAt_206 : decode cX6_layAt 206 = .ok (.goto (-125), 3) := by decide +kernel
theorem dX6_layAt_209 : decode cX6_layAt 209 = .ok (.return_, 1) := by decide +kernel
theorem dX6_fits_0 : decode cX6_fits 0 = .ok (.iconst 0, 1) := by decide +kernel
theorem dX6_fits_1 : decode cX6_fits 1 = .ok (.istore_n 2, 1) := by decide +kernel
theorem dX6_fits_2 : decode cX6_fits 2 = .ok (.iload_n 2, 1) := by decide +kernel
theorem dX6_fits_3 : decode cX6_fits 3 = .ok (.aload_n 0, 1) := by decide +kernel
theorem dX6_fits_4 : decode cX6_fits 4 = .ok (.getfield 36, 3) := by decide +kernel
theorem dX6_fits_7 : decode cX6_fits 7 = .ok (.getfield 76, 3) := by decide +kernel
theorem dX6_fits_10 : decode cX6_fits 10 = .ok (.if_icmp .ge 62, 3) := by decide +kernel
theorem dX6_fits_13 : decode cX6_fits 13 = .ok (.aload_n 0, 1) := by decide +kernel
theorem dX6_fits_14 : decode cX6_fits 14 = .ok (.getfield 12, 3) := by decide +kernel
theorem dX6_fits_17 : decode cX6_fits 17 = .ok (.getfield 116, 3) := by decide +kernel
theorem dX6_fits_20 : decode cX6_fits 20 = .ok (.iload_n 2, 1) := by decide +kernel
theorem dX6_fits_21 : decode cX6_fits 21 = .ok (.laload, 1) := by decide +kernel
theorem dX6_fits_22 : decode cX6_fits 22 = .ok (.lconst 0, 1) := by decide +kernel
theorem dX6_fits_23 : decode cX6_fits 23 = .ok (.lcmp, 1) := by decide +kernel
theorem dX6_fits_24 : decode cX6_fits 24 = .ok (.ifCond .ge 16, 3) := by decide +kernel
theorem dX6_fits_27 : decode cX6_fits 27 = .ok (.aload_n 0, 1) := by decide +kernel
theorem dX6_fits_28 : decode cX6_fits 28 = .ok (.getfield 36, 3) := by decide +kernel
theorem dX6_fits_31 : decode cX6_fits 31 = .ok (.iload_n 2, 1) := by decide +kernel
theorem dX6_fits_32 : decode cX6_fits 32 = .ok (.invokevirtual 123, 3) := by decide +kernel
theorem dX6_fits_35 : decode cX6_fits 35 = .ok (.ifCond .ne 5, 3) := by decide +kernel
theorem dX6_fits_38 : decode cX6_fits 38 = .ok (.iconst 0, 1) := by decide +kernel
theorem dX6_fits_39 : decode cX6_fits 39 = .ok (.ireturn, 1) := by decide +kernel
theorem dX6_fits_40 : decode cX6_fits 40 = .ok (.iload_n 1, 1) := by decide +kernel
theorem dX6_fits_41 : decode cX6_fits 41 = .ok (.iload_n 2, 1) := by decide +kernel
theorem dX6_fits_42 : decode cX6_fits 42 = .ok (.ishr, 1) := by decide +kernel
theorem dX6_fits_43 : decode cX6_fits 43 = .ok (.iconst 1, 1) := by decide +kernel
theorem dX6_fits_44 : decode cX6_fits 44 = .ok (.iand, 1) := by decide +kernel
theorem dX6_fits_45 : decode cX6_fits 45 = .ok (.ifCond .eq 21, 3) := by decide +kernel
theorem dX6_fits_48 : decode cX6_fits 48 = .ok (.aload_n 0, 1) := by decide +kernel
theorem dX6_fits_49 : decode cX6_fits 49 = .ok (.getfield 36, 3) := by decide +kernel
theorem dX6_fits_52 : decode cX6_fits 52 = .ok (.iload_n 2, 1) := by decide +kernel
theorem dX6_fits_53 : decode cX6_fits 53 = .ok (.aload_n 0, 1) := by decide +kernel
theorem dX6_fits_54 : decode cX6_fits 54 = .ok (.iload_n 2, 1) := by decide +kernel
theorem dX6_fits_55 : decode cX6_fits 55 = .ok (.invokevirtual 126, 3) := by decide +kernel
theorem dX6_fits_58 : decode cX6_fits 58 = .ok (.invokevirtual 130, 3) := by decide +kernel
theorem dX6_fits_61 : decode cX6_fits 61 = .ok (.ifCond .ne 5, 3) := by decide +kernel
theorem dX6_fits_64 : decode cX6_fits 64 = .ok (.iconst 0, 1) := by decide +kernel
theorem dX6_fits_65 : decode cX6_fits 65 = .ok (.ireturn, 1) := by decide +kernel
theorem dX6_fits_66 : decode cX6_fits 66 = .ok (.iinc 2 1, 3) := by decide +kernel
theorem dX6_fits_69 : decode cX6_fits 69 = .ok (.goto (-67), 3) := by decide +kernel
theorem dX6_fits_72 : decode cX6_fits 72 = .ok (.iconst 1, 1) := by decide +kernel
theorem dX6_fits_73 : decode cX6_fits 73 = .ok (.ireturn, 1) := by decide +kernel
theorem dX6_slackOf_0 : decode cX6_slackOf 0 = .ok (.aload_n 0, 1) := by decide +kernel
theorem dX6_slackOf_1 : decode cX6_slackOf 1 = .ok (.getfield 36, 3) := by decide +kernel
theorem dX6_slackOf_4 : decode cX6_slackOf 4 = .ok (.aload_n 0, 1) := by decide +kernel
theorem dX6_slackOf_5 : decode cX6_slackOf 5 = .ok (.getfield 36, 3) := by decide +kernel
theorem dX6_slackOf_8 : decode cX6_slackOf 8 = .ok (.iload_n 1, 1) := by decide +kernel
theorem dX6_slackOf_9 : decode cX6_slackOf 9 = .ok (.aload_n 0, 1) := by decide +kernel
theorem dX6_slackOf_10 : decode cX6_slackOf 10 = .ok (.getfield 112, 3) := by decide +kernel
theorem dX6_slackOf_13 : decode cX6_slackOf 13 = .ok (.invokevirtual 98, 3) := by decide +kernel
theorem dX6_slackOf_16 : decode cX6_slackOf 16 = .ok (.iload_n 1, 1) := by decide +kernel
theorem dX6_slackOf_17 : decode cX6_slackOf 17 = .ok (.aload_n 0, 1) := by decide +kernel
theorem dX6_slackOf_18 : decode cX6_slackOf 18 = .ok (.getfield 12, 3) := by decide +kernel
theorem dX6_slackOf_21 : decode cX6_slackOf 21 = .ok (.invokevirtual 134, 3) := by decide +kernel
theorem dX6_slackOf_24 : decode cX6_slackOf 24 = .ok (.lreturn, 1) := by decide +kernel
theorem dX6_heldLines_0 : decode cX6_heldLines 0 = .ok (.iconst 0, 1) := by decide +kernel
theorem dX6_heldLines_1 : decode cX6_heldLines 1 = .ok (.istore_n 1, 1) := by decide +kernel
theorem dX6_heldLines_2 : decode cX6_heldLines 2 = .ok (.iconst 0, 1) := by decide +kernel
theorem dX6_heldLines_3 : decode cX6_heldLines 3 = .ok (.istore_n 2, 1) := by decide +kernel
theorem dX6_heldLines_4 : decode cX6_heldLines 4 = .ok (.iload_n 2, 1) := by decide +kernel
theorem dX6_heldLines_5 : decode cX6_heldLines 5 = .ok (.aload_n 0, 1) := by decide +kernel
theorem dX6_heldLines_6 : decode cX6_heldLines 6 = .ok (.getfield 36, 3) := by decide +kernel
theorem dX6_heldLines_9 : decode cX6_heldLines 9 = .ok (.getfield 76, 3) := by decide +kernel
theorem dX6_heldLines_12 : decode cX6_heldLines 12 = .ok (.if_icmp .ge 35, 3) := by decide +kernel
theorem dX6_heldLines_15 : decode cX6_heldLines 15 = .ok (.iload_n 1, 1) := by decide +kernel
theorem dX6_heldLines_16 : decode cX6_heldLines 16 = .ok (.aload_n 0, 1) := by decide +kernel
theorem dX6_heldLines_17 : decode cX6_heldLines 17 = .ok (.getfield 36, 3) := by decide +kernel
theorem dX6_heldLines_20 : decode cX6_heldLines 20 = .ok (.iload_n 2, 1) := by decide +kernel
theorem dX6_heldLines_21 : decode cX6_heldLines 21 = .ok (.aload_n 0, 1) := by decide +kernel
theorem dX6_heldLines_22 : decode cX6_heldLines 22 = .ok (.iload_n 2, 1) := by decide +kernel
theorem dX6_heldLines_23 : decode cX6_heldLines 23 = .ok (.invokevirtual 126, 3) := by decide +kernel
theorem dX6_heldLines_26 : decode cX6_heldLines 26 = .ok (.invokevirtual 130, 3) := by decide +kernel
theorem dX6_heldLines_29 : decode cX6_heldLines 29 = .ok (.ifCond .eq 9, 3) := by decide +kernel
theorem dX6_heldLines_32 : decode cX6_heldLines 32 = .ok (.iconst 1, 1) := by decide +kernel
theorem dX6_heldLines_33 : decode cX6_heldLines 33 = .ok (.iload_n 2, 1) := by decide +kernel
theorem dX6_heldLines_34 : decode cX6_heldLines 34 = .ok (.ishl, 1) := by decide +kernel
theorem dX6_heldLines_35 : decode cX6_heldLines 35 = .ok (.goto 4, 3) := by decide +kernel
theorem dX6_heldLines_38 : decode cX6_heldLines 38 = .ok (.iconst 0, 1) := by decide +kernel
theorem dX6_heldLines_39 : decode cX6_heldLines 39 = .ok (.ior, 1) := by decide +kernel
theorem dX6_heldLines_40 : decode cX6_heldLines 40 = .ok (.istore_n 1, 1) := by decide +kernel
theorem dX6_heldLines_41 : decode cX6_heldLines 41 = .ok (.iinc 2 1, 3) := by decide +kernel
theorem dX6_heldLines_44 : decode cX6_heldLines 44 = .ok (.goto (-40), 3) := by decide +kernel
theorem dX6_heldLines_47 : decode cX6_heldLines 47 = .ok (.iload_n 1, 1) := by decide +kernel
theorem dX6_heldLines_48 : decode cX6_heldLines 48 = .ok (.ireturn, 1) := by decide +kernel
theorem dX6_tightLines_0 : decode cX6_tightLines 0 = .ok (.iconst 0, 1) := by decide +kernel
theorem dX6_tightLines_1 : decode cX6_tightLines 1 = .ok (.istore_n 1, 1) := by decide +kernel
theorem dX6_tightLines_2 : decode cX6_tightLines 2 = .ok (.iconst 0, 1) := by decide +kernel
theorem dX6_tightLines_3 : decode cX6_tightLines 3 = .ok (.istore_n 2, 1) := by decide +kernel
theorem dX6_tightLines_4 : decode cX6_tightLines 4 = .ok (.iload_n 2, 1) := by decide +kernel
theorem dX6_tightLines_5 : decode cX6_tightLines 5 = .ok (.aload_n 0, 1) := by decide +kernel
theorem dX6_tightLines_6 : decode cX6_tightLines 6 = .ok (.getfield 36, 3) := by decide +kernel
theorem dX6_tightLines_9 : decode cX6_tightLines 9 = .ok (.getfield 76, 3) := by decide +kernel
theorem dX6_tightLines_12 : decode cX6_tightLines 12 = .ok (.if_icmp .ge 29, 3) := by decide +kernel
theorem dX6_tightLines_15 : decode cX6_tightLines 15 = .ok (.iload_n 1, 1) := by decide +kernel
theorem dX6_tightLines_16 : decode cX6_tightLines 16 = .ok (.aload_n 0, 1) := by decide +kernel
theorem dX6_tightLines_17 : decode cX6_tightLines 17 = .ok (.iload_n 2, 1) := by decide +kernel
theorem dX6_tightLines_18 : decode cX6_tightLines 18 = .ok (.invokevirtual 126, 3) := by decide +kernel
theorem dX6_tightLines_21 : decode cX6_tightLines 21 = .ok (.lconst 0, 1) := by decide +kernel
theorem dX6_tightLines_22 : decode cX6_tightLines 22 = .ok (.lcmp, 1) := by decide +kernel
theorem dX6_tightLines_23 : decode cX6_tightLines 23 = .ok (.ifCond .ne 9, 3) := by decide +kernel
theorem dX6_tightLines_26 : decode cX6_tightLines 26 = .ok (.iconst 1, 1) := by decide +kernel
theorem dX6_tightLines_27 : decode cX6_tightLines 27 = .ok (.iload_n 2, 1) := by decide +kernel
theorem dX6_tightLines_28 : decode cX6_tightLines 28 = .ok (.ishl, 1) := by decide +kernel
theorem dX6_tightLines_29 : decode cX6_tightLines 29 = .ok (.goto 4, 3) := by decide +kernel
theorem dX6_tightLines_32 : decode cX6_tightLines 32 = .ok (.iconst 0, 1) := by decide +kernel
theorem dX6_tightLines_33 : decode cX6_tightLines 33 = .ok (.ior, 1) := by decide +kernel
theorem dX6_tightLines_34 : decode cX6_tightLines 34 = .ok (.istore_n 1, 1) := by decide +kernel
theorem dX6_tightLines_35 : decode cX6_tightLines 35 = .ok (.iinc 2 1, 3) := by decide +kernel
theorem dX6_tightLines_38 : decode cX6_tightLines 38 = .ok (.goto (-34), 3) := by decide +kernel
theorem dX6_tightLines_41 : decode cX6_tightLines 41 = .ok (.iload_n 1, 1) := by decide +kernel
theorem dX6_tightLines_42 : decode cX6_tightLines 42 = .ok (.ireturn, 1) := by decide +kernel
theorem dX6_twiceWorth_0 : decode cX6_twiceWorth 0 = .ok (.lconst 0, 1) := by decide +kernel
theorem dX6_twiceWorth_1 : decode cX6_twiceWorth 1 = .ok (.lstore_n 1, 1) := by decide +kernel
theorem dX6_twiceWorth_2 : decode cX6_twiceWorth 2 = .ok (.iconst 0, 1) := by decide +kernel
theorem dX6_twiceWorth_3 : decode cX6_twiceWorth 3 = .ok (.istore_n 3, 1) := by decide +kernel
theorem dX6_twiceWorth_4 : decode cX6_twiceWorth 4 = .ok (.iload_n 3, 1) := by decide +kernel
theorem dX6_twiceWorth_5 : decode cX6_twiceWorth 5 = .ok (.aload_n 0, 1) := by decide +kernel
theorem dX6_twiceWorth_6 : decode cX6_twiceWorth 6 = .ok (.getfield 36, 3) := by decide +kernel
theorem dX6_twiceWorth_9 : decode cX6_twiceWorth 9 = .ok (.getfield 57, 3) := by decide +kernel
theorem dX6_twiceWorth_12 : decode cX6_twiceWorth 12 = .ok (.if_icmp .ge 32, 3) := by decide +kernel
theorem dX6_twiceWorth_15 : decode cX6_twiceWorth 15 = .ok (.lload_n 1, 1) := by decide +kernel
theorem dX6_twiceWorth_16 : decode cX6_twiceWorth 16 = .ok (.aload_n 0, 1) := by decide +kernel
theorem dX6_twiceWorth_17 : decode cX6_twiceWorth 17 = .ok (.getfield 36, 3) := by decide +kernel
theorem dX6_twiceWorth_20 : decode cX6_twiceWorth 20 = .ok (.getfield 89, 3) := by decide +kernel
theorem dX6_twiceWorth_23 : decode cX6_twiceWorth 23 = .ok (.iload_n 3, 1) := by decide +kernel
theorem dX6_twiceWorth_24 : decode cX6_twiceWorth 24 = .ok (.iaload, 1) := by decide +kernel
theorem dX6_twiceWorth_25 : decode cX6_twiceWorth 25 = .ok (.i2l, 1) := by decide +kernel
theorem dX6_twiceWorth_26 : decode cX6_twiceWorth 26 = .ok (.aload_n 0, 1) := by decide +kernel
theorem dX6_twiceWorth_27 : decode cX6_twiceWorth 27 = .ok (.getfield 12, 3) := by decide +kernel
theorem dX6_twiceWorth_30 : decode cX6_twiceWorth 30 = .ok (.getfield 120, 3) := by decide +kernel
theorem dX6_twiceWorth_33 : decode cX6_twiceWorth 33 = .ok (.iload_n 3, 1) := by decide +kernel
theorem dX6_twiceWorth_34 : decode cX6_twiceWorth 34 = .ok (.laload, 1) := by decide +kernel
theorem dX6_twiceWorth_35 : decode cX6_twiceWorth 35 = .ok (.lmul, 1) := by decide +kernel
theorem dX6_twiceWorth_36 : decode cX6_twiceWorth 36 = .ok (.ladd, 1) := by decide +kernel
theorem dX6_twiceWorth_37 : decode cX6_twiceWorth 37 = .ok (.lstore_n 1, 1) := by decide +kernel
theorem dX6_twiceWorth_38 : decode cX6_twiceWorth 38 = .ok (.iinc 3 1, 3) := by decide +kernel
theorem dX6_twiceWorth_41 : decode cX6_twiceWorth 41 = .ok (.goto (-37), 3) := by decide +kernel
theorem dX6_twiceWorth_44 : decode cX6_twiceWorth 44 = .ok (.iconst 0, 1) := by decide +kernel
theorem dX6_twiceWorth_45 : decode cX6_twiceWorth 45 = .ok (.istore_n 3, 1) := by decide +kernel
theorem dX6_twiceWorth_46 : decode cX6_twiceWorth 46 = .ok (.iload_n 3, 1) := by decide +kernel
theorem dX6_twiceWorth_47 : decode cX6_twiceWorth 47 = .ok (.aload_n 0, 1) := by decide +kernel
theorem dX6_twiceWorth_48 : decode cX6_twiceWorth 48 = .ok (.getfield 36, 3) := by decide +kernel
theorem dX6_twiceWorth_51 : decode cX6_twiceWorth 51 = .ok (.getfield 76, 3) := by decide +kernel
theorem dX6_twiceWorth_54 : decode cX6_twiceWorth 54 = .ok (.if_icmp .ge 35, 3) := by decide +kernel
theorem dX6_twiceWorth_57 : decode cX6_twiceWorth 57 = .ok (.lload_n 1, 1) := by decide +kernel
theorem dX6_twiceWorth_58 : decode cX6_twiceWorth 58 = .ok (.aload_n 0, 1) := by decide +kernel
theorem dX6_twiceWorth_59 : decode cX6_twiceWorth 59 = .ok (.getfield 36, 3) := by decide +kernel
theorem dX6_twiceWorth_62 : decode cX6_twiceWorth 62 = .ok (.iload_n 3, 1) := by decide +kernel
theorem dX6_twiceWorth_63 : decode cX6_twiceWorth 63 = .ok (.aload_n 0, 1) := by decide +kernel
theorem dX6_twiceWorth_64 : decode cX6_twiceWorth 64 = .ok (.getfield 112, 3) := by decide +kernel
theorem dX6_twiceWorth_67 : decode cX6_twiceWorth 67 = .ok (.invokevirtual 98, 3) := by decide +kernel
theorem dX6_twiceWorth_70 : decode cX6_twiceWorth 70 = .ok (.i2l, 1) := by decide +kernel
theorem dX6_twiceWorth_71 : decode cX6_twiceWorth 71 = .ok (.aload_n 0, 1) := by decide +kernel
theorem dX6_twiceWorth_72 : decode cX6_twiceWorth 72 = .ok (.getfield 12, 3) := by decide +kernel
theorem dX6_twiceWorth_75 : decode cX6_twiceWorth 75 = .ok (.getfield 116, 3) := by decide +kernel
theorem dX6_twiceWorth_78 : decode cX6_twiceWorth 78 = .ok (.iload_n 3, 1) := by decide +kernel
theorem dX6_twiceWorth_79 : decode cX6_twiceWorth 79 = .ok (.laload, 1) := by decide +kernel
theorem dX6_twiceWorth_80 : decode cX6_twiceWorth 80 = .ok (.lmul, 1) := by decide +kernel
theorem dX6_twiceWorth_81 : decode cX6_twiceWorth 81 = .ok (.lsub, 1) := by decide +kernel
theorem dX6_twiceWorth_82 : decode cX6_twiceWorth 82 = .ok (.lstore_n 1, 1) := by decide +kernel
theorem dX6_twiceWorth_83 : decode cX6_twiceWorth 83 = .ok (.iinc 3 1, 3) := by decide +kernel
theorem dX6_twiceWorth_86 : decode cX6_twiceWorth 86 = .ok (.goto (-40), 3) := by decide +kernel
theorem dX6_twiceWorth_89 : decode cX6_twiceWorth 89 = .ok (.lload_n 1, 1) := by decide +kernel
theorem dX6_twiceWorth_90 : decode cX6_twiceWorth 90 = .ok (.lreturn, 1) := by decide +kernel
theorem dX6_goPath_0 : decode cX6_goPath 0 = .ok (.aload_n 0, 1) := by decide +kernel
theorem dX6_goPath_1 : decode cX6_goPath 1 = .ok (.iconst 0, 1) := by decide +kernel
theorem dX6_goPath_2 : decode cX6_goPath 2 = .ok (.aload_n 0, 1) := by decide +kernel
theorem dX6_goPath_3 : decode cX6_goPath 3 = .ok (.getfield 36, 3) := by decide +kernel
theorem dX6_goPath_6 : decode cX6_goPath 6 = .ok (.getfield 138, 3) := by decide +kernel
theorem dX6_goPath_9 : decode cX6_goPath 9 = .ok (.invokevirtual 139, 3) := by decide +kernel
theorem dX6_goPath_12 : decode cX6_goPath 12 = .ok (.istore_n 1, 1) := by decide +kernel
theorem dX6_goPath_13 : decode cX6_goPath 13 = .ok (.aload_n 0, 1) := by decide +kernel
theorem dX6_goPath_14 : decode cX6_goPath 14 = .ok (.iconst 0, 1) := by decide +kernel
theorem dX6_goPath_15 : decode cX6_goPath 15 = .ok (.putfield 142, 3) := by decide +kernel
theorem dX6_goPath_18 : decode cX6_goPath 18 = .ok (.iconst 0, 1) := by decide +kernel
theorem dX6_goPath_19 : decode cX6_goPath 19 = .ok (.istore_n 2, 1) := by decide +kernel
theorem dX6_goPath_20 : decode cX6_goPath 20 = .ok (.iload_n 2, 1) := by decide +kernel
theorem dX6_goPath_21 : decode cX6_goPath 21 = .ok (.bipush 64, 2) := by decide +kernel
theorem dX6_goPath_23 : decode cX6_goPath 23 = .ok (.if_icmp .ge 66, 3) := by decide +kernel
theorem dX6_goPath_26 : decode cX6_goPath 26 = .ok (.iload_n 1, 1) := by decide +kernel
theorem dX6_goPath_27 : decode cX6_goPath 27 = .ok (.ifCond .lt 62, 3) := by decide +kernel
theorem dX6_goPath_30 : decode cX6_goPath 30 = .ok (.aload_n 0, 1) := by decide +kernel
theorem dX6_goPath_31 : decode cX6_goPath 31 = .ok (.getfield 21, 3) := by decide +kernel
theorem dX6_goPath_34 : decode cX6_goPath 34 = .ok (.iload_n 2, 1) := by decide +kernel
theorem dX6_goPath_35 : decode cX6_goPath 35 = .ok (.iload_n 1, 1) := by decide +kernel
theorem dX6_goPath_36 : decode cX6_goPath 36 = .ok (.iastore, 1) := by decide +kernel
theorem dX6_goPath_37 : decode cX6_goPath 37 = .ok (.aload_n 0, 1) := by decide +kernel
theorem dX6_goPath_38 : decode cX6_goPath 38 = .ok (.iload_n 2, 1) := by decide +kernel
theorem dX6_goPath_39 : decode cX6_goPath 39 = .ok (.iconst 1, 1) := by decide +kernel
theorem dX6_goPath_40 : decode cX6_goPath 40 = .ok (.iadd, 1) := by decide +kernel
theorem dX6_goPath_41 : decode cX6_goPath 41 = .ok (.putfield 142, 3) := by decide +kernel
theorem dX6_goPath_44 : decode cX6_goPath 44 = .ok (.aload_n 0, 1) := by decide +kernel
theorem dX6_goPath_45 : decode cX6_goPath 45 = .ok (.getfield 36, 3) := by decide +kernel
theorem dX6_goPath_48 : decode cX6_goPath 48 = .ok (.invokevirtual 145, 3) := by decide +kernel
theorem dX6_goPath_51 : decode cX6_goPath 51 = .ok (.aload_n 0, 1) := by decide +kernel
theorem dX6_goPath_52 : decode cX6_goPath 52 = .ok (.invokevirtual 149, 3) := by decide +kernel
theorem dX6_goPath_55 : decode cX6_goPath 55 = .ok (.iconst (-1), 1) := by decide +kernel
theorem dX6_goPath_56 : decode cX6_goPath 56 = .ok (.ixor, 1) := by decide +kernel
theorem dX6_goPath_57 : decode cX6_goPath 57 = .ok (.iand, 1) := by decide +kernel
theorem dX6_goPath_58 : decode cX6_goPath 58 = .ok (.istore_n 3, 1) := by decide +kernel
theorem dX6_goPath_59 : decode cX6_goPath 59 = .ok (.iload_n 3, 1) := by decide +kernel
theorem dX6_goPath_60 : decode cX6_goPath 60 = .ok (.ifCond .ne 5, 3) := by decide +kernel
theorem dX6_goPath_63 : decode cX6_goPath 63 = .ok (.iconst 1, 1) := by decide +kernel
theorem dX6_goPath_64 : decode cX6_goPath 64 = .ok (.ireturn, 1) := by decide +kernel
theorem dX6_goPath_65 : decode cX6_goPath 65 = .ok (.aload_n 0, 1) := by decide +kernel
theorem dX6_goPath_66 : decode cX6_goPath 66 = .ok (.iload_n 1, 1) := by decide +kernel
theorem dX6_goPath_67 : decode cX6_goPath 67 = .ok (.iload_n 3, 1) := by decide +kernel
theorem dX6_goPath_68 : decode cX6_goPath 68 = .ok (.iload_n 3, 1) := by decide +kernel
theorem dX6_goPath_69 : decode cX6_goPath 69 = .ok (.ineg, 1) := by decide +kernel
theorem dX6_goPath_70 : decode cX6_goPath 70 = .ok (.iand, 1) := by decide +kernel
theorem dX6_goPath_71 : decode cX6_goPath 71 = .ok (.ior, 1) := by decide +kernel
theorem dX6_goPath_72 : decode cX6_goPath 72 = .ok (.aload_n 0, 1) := by decide +kernel
theorem dX6_goPath_73 : decode cX6_goPath 73 = .ok (.getfield 36, 3) := by decide +kernel
theorem dX6_goPath_76 : decode cX6_goPath 76 = .ok (.getfield 138, 3) := by decide +kernel
theorem dX6_goPath_79 : decode cX6_goPath 79 = .ok (.invokevirtual 139, 3) := by decide +kernel
theorem dX6_goPath_82 : decode cX6_goPath 82 = .ok (.istore_n 1, 1) := by decide +kernel
theorem dX6_goPath_83 : decode cX6_goPath 83 = .ok (.iinc 2 1, 3) := by decide +kernel
theorem dX6_goPath_86 : decode cX6_goPath 86 = .ok (.goto (-66), 3) := by decide +kernel
theorem dX6_goPath_89 : decode cX6_goPath 89 = .ok (.iconst 0, 1) := by decide +kernel
theorem dX6_goPath_90 : decode cX6_goPath 90 = .ok (.ireturn, 1) := by decide +kernel
theorem dX6_changesTo_0 : decode cX6_changesTo 0 = .ok (.aload_n 0, 1) := by decide +kernel
theorem dX6_changesTo_1 : decode cX6_changesTo 1 = .ok (.getfield 36, 3) := by decide +kernel
theorem dX6_changesTo_4 : decode cX6_changesTo 4 = .ok (.invokevirtual 145, 3) := by decide +kernel
theorem dX6_changesTo_7 : decode cX6_changesTo 7 = .ok (.istore_n 2, 1) := by decide +kernel
theorem dX6_changesTo_8 : decode cX6_changesTo 8 = .ok (.aload_n 0, 1) := by decide +kernel
theorem dX6_changesTo_9 : decode cX6_changesTo 9 = .ok (.getfield 33, 3) := by decide +kernel
theorem dX6_changesTo_12 : decode cX6_changesTo 12 = .ok (.iconst (-1), 1) := by decide +kernel
theorem dX6_changesTo_13 : decode cX6_changesTo 13 = .ok (.invokestatic 152, 3) := by decide +kernel
theorem dX6_changesTo_16 : decode cX6_changesTo 16 = .ok (.iconst 0, 1) := by decide +kernel
theorem dX6_changesTo_17 : decode cX6_changesTo 17 = .ok (.istore_n 3, 1) := by decide +kernel
theorem dX6_changesTo_18 : decode cX6_changesTo 18 = .ok (.iload_n 3, 1) := by decide +kernel
theorem dX6_changesTo_19 : decode cX6_changesTo 19 = .ok (.iload_n 2, 1) := by decide +kernel
theorem dX6_changesTo_20 : decode cX6_changesTo 20 = .ok (.if_icmp .gt 24, 3) := by decide +kernel
theorem dX6_changesTo_23 : decode cX6_changesTo 23 = .ok (.aload_n 0, 1) := by decide +kernel
theorem dX6_changesTo_24 : decode cX6_changesTo 24 = .ok (.iload_n 3, 1) := by decide +kernel
theorem dX6_changesTo_25 : decode cX6_changesTo 25 = .ok (.invokevirtual 40, 3) := by decide +kernel
theorem dX6_changesTo_28 : decode cX6_changesTo 28 = .ok (.ifCond .eq 10, 3) := by decide +kernel
theorem dX6_changesTo_31 : decode cX6_changesTo 31 = .ok (.aload_n 0, 1) := by decide +kernel
theorem dX6_changesTo_32 : decode cX6_changesTo 32 = .ok (.iload_n 3, 1) := by decide +kernel
theorem dX6_changesTo_33 : decode cX6_changesTo 33 = .ok (.iload_n 2, 1) := by decide +kernel
theorem dX6_changesTo_34 : decode cX6_changesTo 34 = .ok (.iload_n 1, 1) := by decide +kernel
theorem dX6_changesTo_35 : decode cX6_changesTo 35 = .ok (.invokevirtual 155, 3) := by decide +kernel
theorem dX6_changesTo_38 : decode cX6_changesTo 38 = .ok (.iinc 3 1, 3) := by decide +kernel
theorem dX6_changesTo_41 : decode cX6_changesTo 41 = .ok (.goto (-23), 3) := by decide +kernel
theorem dX6_changesTo_44 : decode cX6_changesTo 44 = .ok (.iconst 0, 1) := by decide +kernel
theorem dX6_changesTo_45 : decode cX6_changesTo 45 = .ok (.istore_n 3, 1) := by decide +kernel
theorem dX6_changesTo_46 : decode cX6_changesTo 46 = .ok (.iconst 1, 1) := by decide +kernel
theorem dX6_changesTo_47 : decode cX6_changesTo 47 = .ok (.istore 4, 2) := by decide +kernel
theorem dX6_changesTo_49 : decode cX6_changesTo 49 = .ok (.iload 4, 2) := by decide +kernel
theorem dX6_changesTo_51 : decode cX6_changesTo 51 = .ok (.iload_n 1, 1) := by decide +kernel
theorem dX6_changesTo_52 : decode cX6_changesTo 52 = .ok (.if_icmp .gt 43, 3) := by decide +kernel
theorem dX6_changesTo_55 : decode cX6_changesTo 55 = .ok (.iload 4, 2) := by decide +kernel
theorem dX6_changesTo_57 : decode cX6_changesTo 57 = .ok (.bipush 40, 2) := by decide +kernel
theorem dX6_changesTo_59 : decode cX6_changesTo 59 = .ok (.if_icmp .gt 36, 3) := by decide +kernel
theorem dX6_changesTo_62 : decode cX6_changesTo 62 = .ok (.iload_n 3, 1) := by decide +kernel
theorem dX6_changesTo_63 : decode cX6_changesTo 63 = .ok (.aload_n 0, 1) := by decide +kernel
theorem dX6_changesTo_64 : decode cX6_changesTo 64 = .ok (.getfield 33, 3) := by decide +kernel
theorem dX6_changesTo_67 : decode cX6_changesTo 67 = .ok (.iload 4, 2) := by decide +kernel
theorem dX6_changesTo_69 : decode cX6_changesTo 69 = .ok (.iaload, 1) := by decide +kernel
theorem dX6_changesTo_70 : decode cX6_changesTo 70 = .ok (.aload_n 0, 1) := by decide +kernel
theorem dX6_changesTo_71 : decode cX6_changesTo 71 = .ok (.getfield 33, 3) := by decide +kernel
theorem dX6_changesTo_74 : decode cX6_changesTo 74 = .ok (.iload 4, 2) := by decide +kernel
theorem dX6_changesTo_76 : decode cX6_changesTo 76 = .ok (.iconst 1, 1) := by decide +kernel
theorem dX6_changesTo_77 : decode cX6_changesTo 77 = .ok (.isub, 1) := by decide +kernel
theorem dX6_changesTo_78 : decode cX6_changesTo 78 = .ok (.iaload, 1) := by decide +kernel
theorem dX6_changesTo_79 : decode cX6_changesTo 79 = .ok (.if_icmp .eq 7, 3) := by decide +kernel
theorem dX6_changesTo_82 : decode cX6_changesTo 82 = .ok (.iconst 1, 1) := by decide +kernel
theorem dX6_changesTo_83 : decode cX6_changesTo 83 = .ok (.goto 4, 3) := by decide +kernel
theorem dX6_changesTo_86 : decode cX6_changesTo 86 = .ok (.iconst 0, 1) := by decide +kernel
theorem dX6_changesTo_87 : decode cX6_changesTo 87 = .ok (.iadd, 1) := by decide +kernel
theorem dX6_changesTo_88 : decode cX6_changesTo 88 = .ok (.istore_n 3, 1) := by decide +kernel
theorem dX6_changesTo_89 : decode cX6_changesTo 89 = .ok (.iinc 4 1, 3) := by decide +kernel
theorem dX6_changesTo_92 : decode cX6_changesTo 92 = .ok (.goto (-43), 3) := by decide +kernel
theorem dX6_changesTo_95 : decode cX6_changesTo 95 = .ok (.iload_n 3, 1) := by decide +kernel
theorem dX6_changesTo_96 : decode cX6_changesTo 96 = .ok (.ireturn, 1) := by decide +kernel
theorem dX6_claimTides_0 : decode cX6_claimTides 0 = .ok (.iconst 0, 1) := by decide +kernel
theorem dX6_claimTides_1 : decode cX6_claimTides 1 = .ok (.istore 4, 2) := by decide +kernel
theorem dX6_claimTides_3 : decode cX6_claimTides 3 = .ok (.iload 4, 2) := by decide +kernel
theorem dX6_claimTides_5 : decode cX6_claimTides 5 = .ok (.iload_n 3, 1) := by decide +kernel
theorem dX6_claimTides_6 : decode cX6_claimTides 6 = .ok (.if_icmp .gt 49, 3) := by decide +kernel
theorem dX6_claimTides_9 : decode cX6_claimTides 9 = .ok (.iload 4, 2) := by decide +kernel
theorem dX6_claimTides_11 : decode cX6_claimTides 11 = .ok (.bipush 40, 2) := by decide +kernel
theorem dX6_claimTides_13 : decode cX6_claimTides 13 = .ok (.if_icmp .gt 42, 3) := by decide +kernel
theorem dX6_claimTides_16 : decode cX6_claimTides 16 = .ok (.aload_n 0, 1) := by decide +kernel
theorem dX6_claimTides_17 : decode cX6_claimTides 17 = .ok (.getfield 33, 3) := by decide +kernel
theorem dX6_claimTides_20 : decode cX6_claimTides 20 = .ok (.iload 4, 2) := by decide +kernel
theorem dX6_claimTides_22 : decode cX6_claimTides 22 = .ok (.iaload, 1) := by decide +kernel
theorem dX6_claimTides_23 : decode cX6_claimTides 23 = .ok (.iconst (-1), 1) := by decide +kernel
theorem dX6_claimTides_24 : decode cX6_claimTides 24 = .ok (.if_icmp .ne 25, 3) := by decide +kernel
theorem dX6_claimTides_27 : decode cX6_claimTides 27 = .ok (.aload_n 0, 1) := by decide +kernel
theorem dX6_claimTides_28 : decode cX6_claimTides 28 = .ok (.iload 4, 2) := by decide +kernel
theorem dX6_claimTides_30 : decode cX6_claimTides 30 = .ok (.invokevirtual 44, 3) := by decide +kernel
theorem dX6_claimTides_33 : decode cX6_claimTides 33 = .ok (.aload_n 0, 1) := by decide +kernel
theorem dX6_claimTides_34 : decode cX6_claimTides 34 = .ok (.iload_n 2, 1) := by decide +kernel
theorem dX6_claimTides_35 : decode cX6_claimTides 35 = .ok (.invokevirtual 48, 3) := by decide +kernel
theorem dX6_claimTides_38 : decode cX6_claimTides 38 = .ok (.ifCond .eq 11, 3) := by decide +kernel
theorem dX6_claimTides_41 : decode cX6_claimTides 41 = .ok (.aload_n 0, 1) := by decide +kernel
theorem dX6_claimTides_42 : decode cX6_claimTides 42 = .ok (.getfield 33, 3) := by decide +kernel
theorem dX6_claimTides_45 : decode cX6_claimTides 45 = .ok (.iload 4, 2) := by decide +kernel
theorem dX6_claimTides_47 : decode cX6_claimTides 47 = .ok (.iload_n 1, 1) := by decide +kernel
theorem dX6_claimTides_48 : decode cX6_claimTides 48 = .ok (.iastore, 1) := by decide +kernel
theorem dX6_claimTides_49 : decode cX6_claimTides 49 = .ok (.iinc 4 1, 3) := by decide +kernel
theorem dX6_claimTides_52 : decode cX6_claimTides 52 = .ok (.goto (-49), 3) := by decide +kernel
theorem dX6_claimTides_55 : decode cX6_claimTides 55 = .ok (.return_, 1) := by decide +kernel
theorem dX6_findReach_0 : decode cX6_findReach 0 = .ok (.aload_n 0, 1) := by decide +kernel
theorem dX6_findReach_1 : decode cX6_findReach 1 = .ok (.lconst 0, 1) := by decide +kernel
theorem dX6_findReach_2 : decode cX6_findReach 2 = .ok (.putfield 159, 3) := by decide +kernel
theorem dX6_findReach_5 : decode cX6_findReach 5 = .ok (.iconst 0, 1) := by decide +kernel
theorem dX6_findReach_6 : decode cX6_findReach 6 = .ok (.istore_n 1, 1) := by decide +kernel
theorem dX6_findReach_7 : decode cX6_findReach 7 = .ok (.iload_n 1, 1) := by decide +kernel
theorem dX6_findReach_8 : decode cX6_findReach 8 = .ok (.aload_n 0, 1) := by decide +kernel
theorem dX6_findReach_9 : decode cX6_findReach 9 = .ok (.getfield 36, 3) := by decide +kernel
theorem dX6_findReach_12 : decode cX6_findReach 12 = .ok (.getfield 76, 3) := by decide +kernel
theorem dX6_findReach_15 : decode cX6_findReach 15 = .ok (.if_icmp .ge 90, 3) := by decide +kernel
theorem dX6_findReach_18 : decode cX6_findReach 18 = .ok (.aload_n 0, 1) := by decide +kernel
theorem dX6_findReach_19 : decode cX6_findReach 19 = .ok (.getfield 36, 3) := by decide +kernel
theorem dX6_findReach_22 : decode cX6_findReach 22 = .ok (.aload_n 0, 1) := by decide +kernel
theorem dX6_findReach_23 : decode cX6_findReach 23 = .ok (.getfield 36, 3) := by decide +kernel
theorem dX6_findReach_26 : decode cX6_findReach 26 = .ok (.iload_n 1, 1) := by decide +kernel
theorem dX6_findReach_27 : decode cX6_findReach 27 = .ok (.invokevirtual 101, 3) := by decide +kernel
theorem dX6_findReach_30 : decode cX6_findReach 30 = .ok (.iload_n 1, 1) := by decide +kernel
theorem dX6_findReach_31 : decode cX6_findReach 31 = .ok (.aload_n 0, 1) := by decide +kernel
theorem dX6_findReach_32 : decode cX6_findReach 32 = .ok (.getfield 18, 3) := by decide +kernel
theorem dX6_findReach_35 : decode cX6_findReach 35 = .ok (.invokevirtual 134, 3) := by decide +kernel
theorem dX6_findReach_38 : decode cX6_findReach 38 = .ok (.lstore_n 2, 1) := by decide +kernel
theorem dX6_findReach_39 : decode cX6_findReach 39 = .ok (.aload_n 0, 1) := by decide +kernel
theorem dX6_findReach_40 : decode cX6_findReach 40 = .ok (.getfield 36, 3) := by decide +kernel
theorem dX6_findReach_43 : decode cX6_findReach 43 = .ok (.iload_n 1, 1) := by decide +kernel
theorem dX6_findReach_44 : decode cX6_findReach 44 = .ok (.invokevirtual 123, 3) := by decide +kernel
theorem dX6_findReach_47 : decode cX6_findReach 47 = .ok (.ifCond .eq 20, 3) := by decide +kernel
theorem dX6_findReach_50 : decode cX6_findReach 50 = .ok (.aload_n 0, 1) := by decide +kernel
theorem dX6_findReach_51 : decode cX6_findReach 51 = .ok (.aload_n 0, 1) := by decide +kernel
theorem dX6_findReach_52 : decode cX6_findReach 52 = .ok (.iload_n 1, 1) := by decide +kernel
theorem dX6_findReach_53 : decode cX6_findReach 53 = .ok (.invokevirtual 126, 3) := by decide +kernel
theorem dX6_findReach_56 : decode cX6_findReach 56 = .ok (.lload_n 2, 1) := by decide +kernel
theorem dX6_findReach_57 : decode cX6_findReach 57 = .ok (.invokestatic 162, 3) := by decide +kernel
theorem dX6_findReach_60 : decode cX6_findReach 60 = .ok (.lneg, 1) := by decide +kernel
theorem dX6_findReach_61 : decode cX6_findReach 61 = .ok (.invokevirtual 168, 3) := by decide +kernel
theorem dX6_findReach_64 : decode cX6_findReach 64 = .ok (.goto 35, 3) := by decide +kernel
theorem dX6_findReach_67 : decode cX6_findReach 67 = .ok (.aload_n 0, 1) := by decide +kernel
theorem dX6_findReach_68 : decode cX6_findReach 68 = .ok (.aload_n 0, 1) := by decide +kernel
theorem dX6_findReach_69 : decode cX6_findReach 69 = .ok (.iload_n 1, 1) := by decide +kernel
theorem dX6_findReach_70 : decode cX6_findReach 70 = .ok (.invokevirtual 126, 3) := by decide +kernel
theorem dX6_findReach_73 : decode cX6_findReach 73 = .ok (.lload_n 2, 1) := by decide +kernel
theorem dX6_findReach_74 : decode cX6_findReach 74 = .ok (.invokevirtual 168, 3) := by decide +kernel
theorem dX6_findReach_77 : decode cX6_findReach 77 = .ok (.aload_n 0, 1) := by decide +kernel
theorem dX6_findReach_78 : decode cX6_findReach 78 = .ok (.aload_n 0, 1) := by decide +kernel
theorem dX6_findReach_79 : decode cX6_findReach 79 = .ok (.getfield 12, 3) := by decide +kernel
theorem dX6_findReach_82 : decode cX6_findReach 82 = .ok (.getfield 116, 3) := by decide +kernel
theorem dX6_findReach_85 : decode cX6_findReach 85 = .ok (.iload_n 1, 1) := by decide +kernel
theorem dX6_findReach_86 : decode cX6_findReach 86 = .ok (.laload, 1) := by decide +kernel
theorem dX6_findReach_87 : decode cX6_findReach 87 = .ok (.aload_n 0, 1) := by decide +kernel
theorem dX6_findReach_88 : decode cX6_findReach 88 = .ok (.getfield 18, 3) := by decide +kernel
theorem dX6_findReach_91 : decode cX6_findReach 91 = .ok (.getfield 116, 3) := by decide +kernel
theorem dX6_findReach_94 : decode cX6_findReach 94 = .ok (.iload_n 1, 1) := by decide +kernel
theorem dX6_findReach_95 : decode cX6_findReach 95 = .ok (.laload, 1) := by decide +kernel
theorem dX6_findReach_96 : decode cX6_findReach 96 = .ok (.invokevirtual 168, 3) := by decide +kernel
theorem dX6_findReach_99 : decode cX6_findReach 99 = .ok (.iinc 1 1, 3) := by decide +kernel
theorem dX6_findReach_102 : decode cX6_findReach 102 = .ok (.goto (-95), 3) := by decide +kernel
theorem dX6_findReach_105 : decode cX6_findReach 105 = .ok (.aload_n 0, 1) := by decide +kernel
theorem dX6_findReach_106 : decode cX6_findReach 106 = .ok (.getfield 159, 3) := by decide +kernel
theorem dX6_findReach_109 : decode cX6_findReach 109 = .ok (.lconst 0, 1) := by decide +kernel
theorem dX6_findReach_110 : decode cX6_findReach 110 = .ok (.lcmp, 1) := by decide +kernel
theorem dX6_findReach_111 : decode cX6_findReach 111 = .ok (.ifCond .eq 7, 3) := by decide +kernel
theorem dX6_findReach_114 : decode cX6_findReach 114 = .ok (.iconst 1, 1) := by decide +kernel
theorem dX6_findReach_115 : decode cX6_findReach 115 = .ok (.goto 4, 3) := by decide +kernel
theorem dX6_findReach_118 : decode cX6_findReach 118 = .ok (.iconst 0, 1) := by decide +kernel
theorem dX6_findReach_119 : decode cX6_findReach 119 = .ok (.ireturn, 1) := by decide +kernel
theorem dX6_limitReach_0 : decode cX6_limitReach 0 = .ok (.lload_n 3, 1) := by decide +kernel
theorem dX6_limitReach_1 : decode cX6_limitReach 1 = .ok (.lconst 0, 1) := by decide +kernel
theorem dX6_limitReach_2 : decode cX6_limitReach 2 = .ok (.lcmp, 1) := by decide +kernel
theorem dX6_limitReach_3 : decode cX6_limitReach 3 = .ok (.ifCond .lt 4, 3) := by decide +kernel
theorem dX6_limitReach_6 : decode cX6_limitReach 6 = .ok (.return_, 1) := by decide +kernel
theorem dX6_limitReach_7 : decode cX6_limitReach 7 = .ok (.aload_n 0, 1) := by decide +kernel
theorem dX6_limitReach_8 : decode cX6_limitReach 8 = .ok (.getfield 159, 3) := by decide +kernel
theorem dX6_limitReach_11 : decode cX6_limitReach 11 = .ok (.lconst 0, 1) := by decide +kernel
theorem dX6_limitReach_12 : decode cX6_limitReach 12 = .ok (.lcmp, 1) := by decide +kernel
theorem dX6_limitReach_13 : decode cX6_limitReach 13 = .ok (.ifCond .eq 20, 3) := by decide +kernel
theorem dX6_limitReach_16 : decode cX6_limitReach 16 = .ok (.lload_n 1, 1) := by decide +kernel
theorem dX6_limitReach_17 : decode cX6_limitReach 17 = .ok (.lload_n 3, 1) := by decide +kernel
theorem dX6_limitReach_18 : decode cX6_limitReach 18 = .ok (.lneg, 1) := by decide +kernel
theorem dX6_limitReach_19 : decode cX6_limitReach 19 = .ok (.aload_n 0, 1) := by decide +kernel
theorem dX6_limitReach_20 : decode cX6_limitReach 20 = .ok (.getfield 172, 3) := by decide +kernel
theorem dX6_limitReach_23 : decode cX6_limitReach 23 = .ok (.aload_n 0, 1) := by decide +kernel
theorem dX6_limitReach_24 : decode cX6_limitReach 24 = .ok (.getfield 159, 3) := by decide +kernel
theorem dX6_limitReach_27 : decode cX6_limitReach 27 = .ok (.invokestatic 175, 3) := by decide +kernel
theorem dX6_limitReach_30 : decode cX6_limitReach 30 = .ok (.ifCond .eq 14, 3) := by decide +kernel
theorem dX6_limitReach_33 : decode cX6_limitReach 33 = .ok (.aload_n 0, 1) := by decide +kernel
theorem dX6_limitReach_34 : decode cX6_limitReach 34 = .ok (.lload_n 1, 1) := by decide +kernel
theorem dX6_limitReach_35 : decode cX6_limitReach 35 = .ok (.putfield 172, 3) := by decide +kernel
theorem dX6_limitReach_38 : decode cX6_limitReach 38 = .ok (.aload_n 0, 1) := by decide +kernel
theorem dX6_limitReach_39 : decode cX6_limitReach 39 = .ok (.lload_n 3, 1) := by decide +kernel
theorem dX6_limitReach_40 : decode cX6_limitReach 40 = .ok (.lneg, 1) := by decide +kernel
theorem dX6_limitReach_41 : decode cX6_limitReach 41 = .ok (.putfield 159, 3) := by decide +kernel
theorem dX6_limitReach_44 : decode cX6_limitReach 44 = .ok (.return_, 1) := by decide +kernel
theorem dX7_init_0 : decode cX7_init 0 = .ok (.aload_n 0, 1) := by decide +kernel
theorem dX7_init_1 : decode cX7_init 1 = .ok (.invokespecial 1, 3) := by decide +kernel
theorem dX7_init_4 : decode cX7_init 4 = .ok (.aload_n 0, 1) := by decide +kernel
theorem dX7_init_5 : decode cX7_init 5 = .ok (.new 7, 3) := by decide +kernel
theorem dX7_init_8 : decode cX7_init 8 = .ok (.dup, 1) := by decide +kernel
theorem dX7_init_9 : decode cX7_init 9 = .ok (.invokespecial 9, 3) := by decide +kernel
theorem dX7_init_12 : decode cX7_init 12 = .ok (.putfield 10, 3) := by decide +kernel
theorem dX7_init_15 : decode cX7_init 15 = .ok (.aload_n 0, 1) := by decide +kernel
theorem dX7_init_16 : decode cX7_init 16 = .ok (.new 7, 3) := by decide +kernel
theorem dX7_init_19 : decode cX7_init 19 = .ok (.dup, 1) := by decide +kernel
theorem dX7_init_20 : decode cX7_init 20 = .ok (.invokespecial 9, 3) := by decide +kernel
theorem dX7_init_23 : decode cX7_init 23 = .ok (.putfield 16, 3) := by decide +kernel
theorem dX7_init_26 : decode cX7_init 26 = .ok (.aload_n 0, 1) := by decide +kernel
theorem dX7_init_27 : decode cX7_init 27 = .ok (.new 7, 3) := by decide +kernel
theorem dX7_init_30 : decode cX7_init 30 = .ok (.dup, 1) := by decide +kernel
theorem dX7_init_31 : decode cX7_init 31 = .ok (.invokespecial 9, 3) := by decide +kernel
theorem dX7_init_34 : decode cX7_init 34 = .ok (.putfield 19, 3) := by decide +kernel
theorem dX7_init_37 : decode cX7_init 37 = .ok (.aload_n 0, 1) := by decide +kernel
theorem dX7_init_38 : decode cX7_init 38 = .ok (.new 22, 3) := by decide +kernel
theorem dX7_init_41 : decode cX7_init 41 = .ok (.dup, 1) := by decide +kernel
theorem dX7_init_42 : decode cX7_init 42 = .ok (.aload_n 0, 1) := by decide +kernel
theorem dX7_init_43 : decode cX7_init 43 = .ok (.getfield 10, 3) := by decide +kernel
theorem dX7_init_46 : decode cX7_init 46 = .ok (.invokespecial 24, 3) := by decide +kernel
theorem dX7_init_49 : decode cX7_init 49 = .ok (.putfield 27, 3) := by decide +kernel
theorem dX7_init_52 : decode cX7_init 52 = .ok (.aload_n 0, 1) := by decide +kernel
theorem dX7_init_53 : decode cX7_init 53 = .ok (.new 22, 3) := by decide +kernel
theorem dX7_init_56 : decode cX7_init 56 = .ok (.dup, 1) := by decide +kernel
theorem dX7_init_57 : decode cX7_init 57 = .ok (.aload_n 0, 1) := by decide +kernel
theorem dX7_init_58 : decode cX7_init 58 = .ok (.getfield 19, 3) := by decide +kernel
theorem dX7_init_61 : decode cX7_init 61 = .ok (.invokespecial 24, 3) := by decide +kernel
theorem dX7_init_64 : decode cX7_init 64 = .ok (.putfield 31, 3) := by decide +kernel
theorem dX7_init_67 : decode cX7_init 67 = .ok (.aload_n 0, 1) := by decide +kernel
theorem dX7_init_68 : decode cX7_init 68 = .ok (.new 34, 3) := by decide +kernel
theorem dX7_init_71 : decode cX7_init 71 = .ok (.dup, 1) := by decide +kernel
theorem dX7_init_72 : decode cX7_init 72 = .ok (.invokespecial 36, 3) := by decide +kernel
theorem dX7_init_75 : decode cX7_init 75 = .ok (.putfield 37, 3) := by decide +kernel
theorem dX7_init_78 : decode cX7_init 78 = .ok (.aload_n 0, 1) := by decide +kernel
theorem dX7_init_79 : decode cX7_init 79 = .ok (.new 41, 3) := by decide +kernel
theorem dX7_init_82 : decode cX7_init 82 = .ok (.dup, 1) := by decide +kernel
theorem dX7_init_83 : decode cX7_init 83 = .ok (.aload_n 0, 1) := by decide +kernel
theorem dX7_init_84 : decode cX7_init 84 = .ok (.getfield 10, 3) := by decide +kernel
theorem dX7_init_87 : decode cX7_init 87 = .ok (.invokespecial 43, 3) := by decide +kernel
theorem dX7_init_90 : decode cX7_init 90 = .ok (.putfield 44, 3) := by decide +kernel
theorem dX7_init_93 : decode cX7_init 93 = .ok (.aload_n 0, 1) := by decide +kernel
theorem dX7_init_94 : decode cX7_init 94 = .ok (.new 48, 3) := by decide +kernel
theorem dX7_init_97 : decode cX7_init 97 = .ok (.dup, 1) := by decide +kernel
theorem dX7_init_98 : decode cX7_init 98 = .ok (.invokespecial 50, 3) := by decide +kernel
theorem dX7_init_101 : decode cX7_init 101 = .ok (.putfield 51, 3) := by decide +kernel
theorem dX7_init_104 : decode cX7_init 104 = .ok (.aload_n 0, 1) := by decide +kernel
theorem dX7_init_105 : decode cX7_init 105 = .ok (.getfield 10, 3) := by decide +kernel
theorem dX7_init_108 : decode cX7_init 108 = .ok (.iconst 2, 1) := by decide +kernel
theorem dX7_init_109 : decode cX7_init 109 = .ok (.invokevirtual 55, 3) := by decide +kernel
theorem dX7_init_112 : decode cX7_init 112 = .ok (.return_, 1) := by decide +kernel
theorem dX7_size_0 : decode cX7_size 0 = .ok (.iload_n 1, 1) := by decide +kernel
theorem dX7_size_1 : decode cX7_size 1 = .ok (.iconst 1, 1) := by decide +kernel
theorem dX7_size_2 : decode cX7_size 2 = .ok (.if_icmp .lt 8, 3) := by decide +kernel
theorem dX7_size_5 : decode cX7_size 5 = .ok (.iload_n 1, 1) := by decide +kernel
theorem dX7_size_6 : decode cX7_size 6 = .ok (.iconst 3, 1) := by decide +kernel
theorem dX7_size_7 : decode cX7_size 7 = .ok (.if_icmp .le 6, 3) := by decide +kernel
theorem dX7_size_10 : decode cX7_size 10 = .ok (.bipush (-2), 2) := by decide +kernel
theorem dX7_size_12 : decode cX7_size 12 = .ok (.ireturn, 1) := by decide +kernel
theorem dX7_size_13 : decode cX7_size 13 = .ok (.aload_n 0, 1) := by decide +kernel
theorem dX7_size_14 : decode cX7_size 14 = .ok (.getfield 10, 3) := by decide +kernel
theorem dX7_size_17 : decode cX7_size 17 = .ok (.getfield 59, 3) := by decide +kernel
theorem dX7_size_20 : decode cX7_size 20 = .ok (.istore_n 2, 1) := by decide +kernel
theorem dX7_size_21 : decode cX7_size 21 = .ok (.aload_n 0, 1) := by decide +kernel
theorem dX7_size_22 : decode cX7_size 22 = .ok (.getfield 10, 3) := by decide +kernel
theorem dX7_size_25 : decode cX7_size 25 = .ok (.iload_n 1, 1) := by decide +kernel
theorem dX7_size_26 : decode cX7_size 26 = .ok (.invokevirtual 55, 3) := by decide +kernel
theorem dX7_size_29 : decode cX7_size 29 = .ok (.iload_n 2, 1) := by decide +kernel
theorem dX7_size_30 : decode cX7_size 30 = .ok (.ireturn, 1) := by decide +kernel
theorem dX7_bend_0 : decode cX7_bend 0 = .ok (.aload_n 0, 1) := by decide +kernel
theorem dX7_bend_1 : decode cX7_bend 1 = .ok (.iload_n 1, 1) := by decide +kernel
theorem dX7_bend_2 : decode cX7_bend 2 = .ok (.invokevirtual 63, 3) := by decide +kernel
theorem dX7_bend_5 : decode cX7_bend 5 = .ok (.ifCond .eq 28, 3) := by decide +kernel
theorem dX7_bend_8 : decode cX7_bend 8 = .ok (.aload_n 0, 1) := by decide +kernel
theorem dX7_bend_9 : decode cX7_bend 9 = .ok (.iload_n 2, 1) := by decide +kernel
theorem dX7_bend_10 : decode cX7_bend 10 = .ok (.invokevirtual 63, 3) := by decide +kernel
theorem dX7_bend_13 : decode cX7_bend 13 = .ok (.ifCond .eq 20, 3) := by decide +kernel
theorem dX7_bend_16 : decode cX7_bend 16 = .ok (.iload_n 1, 1) := by decide +kernel
theorem dX7_bend_17 : decode cX7_bend 17 = .ok (.iload_n 2, 1) := by decide +kernel
theorem dX7_bend_18 : decode cX7_bend 18 = .ok (.if_icmp .ne 7, 3) := by decide +kernel
theorem dX7_bend_21 : decode cX7_bend 21 = .ok (.iconst 1, 1) := by decide +kernel
theorem dX7_bend_22 : decode cX7_bend 22 = .ok (.goto 4, 3) := by decide +kernel
theorem dX7_bend_25 : decode cX7_bend 25 = .ok (.iconst 0, 1) := by decide +kernel
theorem dX7_bend_26 : decode cX7_bend 26 = .ok (.iload_n 3, 1) := by decide +kernel
theorem dX7_bend_27 : decode cX7_bend 27 = .ok (.invokestatic 67, 3) := by decide +kernel
theorem dX7_bend_30 : decode cX7_bend 30 = .ok (.ifCond .ne 6, 3) := by decide +kernel
theorem dX7_bend_33 : decode cX7_bend 33 = .ok (.bipush (-2), 2) := by decide +kernel
theorem dX7_bend_35 : decode cX7_bend 35 = .ok (.ireturn, 1) := by decide +kernel
theorem dX7_bend_36 : decode cX7_bend 36 = .ok (.aload_n 0, 1) := by decide +kernel
theorem dX7_bend_37 : decode cX7_bend 37 = .ok (.getfield 10, 3) := by decide +kernel
theorem dX7_bend_40 : decode cX7_bend 40 = .ok (.iload_n 1, 1) := by decide +kernel
theorem dX7_bend_41 : decode cX7_bend 41 = .ok (.iload_n 2, 1) := by decide +kernel
theorem dX7_bend_42 : decode cX7_bend 42 = .ok (.invokevirtual 71, 3) := by decide +kernel
theorem dX7_bend_45 : decode cX7_bend 45 = .ok (.istore 4, 2) := by decide +kernel
theorem dX7_bend_47 : decode cX7_bend 47 = .ok (.aload_n 0, 1) := by decide +kernel
theorem dX7_bend_48 : decode cX7_bend 48 = .ok (.getfield 10, 3) := by decide +kernel
theorem dX7_bend_51 : decode cX7_bend 51 = .ok (.iload_n 1, 1) := by decide +kernel
theorem dX7_bend_52 : decode cX7_bend 52 = .ok (.iload_n 2, 1) := by decide +kernel
theorem dX7_bend_53 : decode cX7_bend 53 = .ok (.iload_n 3, 1) := by decide +kernel
theorem dX7_bend_54 : decode cX7_bend 54 = .ok (.invokevirtual 75, 3) := by decide +kernel
theorem dX7_bend_57 : decode cX7_bend 57 = .ok (.iload 4, 2) := by decide +kernel
theorem dX7_bend_59 : decode cX7_bend 59 = .ok (.ireturn, 1) := by decide +kernel
theorem dX7_push_0 : decode cX7_push 0 = .ok (.aload_n 0, 1) := by decide +kernel
theorem dX7_push_1 : decode cX7_push 1 = .ok (.iload_n 1, 1) := by decide +kernel
theorem dX7_push_2 : decode cX7_push 2 = .ok (.invokevirtual 63, 3) := by decide +kernel
theorem dX7_push_5 : decode cX7_push 5 = .ok (.ifCond .eq 12, 3) := by decide +kernel
theorem dX7_push_8 : decode cX7_push 8 = .ok (.iload_n 2, 1) := by decide +kernel
theorem dX7_push_9 : decode cX7_push 9 = .ok (.bipush 99, 2) := by decide +kernel
theorem dX7_push_11 : decode cX7_push 11 = .ok (.invokestatic 79, 3) := by decide +kernel
theorem dX7_push_14 : decode cX7_push 14 = .ok (.ifCond .ne 6, 3) := by decide +kernel
theorem dX7_push_17 : decode cX7_push 17 = .ok (.bipush (-2), 2) := by decide +kernel
theorem dX7_push_19 : decode cX7_push 19 = .ok (.ireturn, 1) := by decide +kernel
theorem dX7_push_20 : decode cX7_push 20 = .ok (.aload_n 0, 1) := by decide +kernel
theorem dX7_push_21 : decode cX7_push 21 = .ok (.getfield 10, 3) := by decide +kernel
theorem dX7_push_24 : decode cX7_push 24 = .ok (.getfield 83, 3) := by decide +kernel
theorem dX7_push_27 : decode cX7_push 27 = .ok (.iload_n 1, 1) := by decide +kernel
theorem dX7_push_28 : decode cX7_push 28 = .ok (.iaload, 1) := by decide +kernel
theorem dX7_push_29 : decode cX7_push 29 = .ok (.istore_n 3, 1) := by decide +kernel
theorem dX7_push_30 : decode cX7_push 30 = .ok (.aload_n 0, 1) := by decide +kernel
theorem dX7_push_31 : decode cX7_push 31 = .ok (.getfield 10, 3) := by decide +kernel
theorem dX7_push_34 : decode cX7_push 34 = .ok (.getfield 83, 3) := by decide +kernel
theorem dX7_push_37 : decode cX7_push 37 = .ok (.iload_n 1, 1) := by decide +kernel
theorem dX7_push_38 : decode cX7_push 38 = .ok (.iload_n 2, 1) := by decide +kernel
theorem dX7_push_39 : decode cX7_push 39 = .ok (.iastore, 1) := by decide +kernel
theorem dX7_push_40 : decode cX7_push 40 = .ok (.iload_n 3, 1) := by decide +kernel
theorem dX7_push_41 : decode cX7_push 41 = .ok (.ireturn, 1) := by decide +kernel
theorem dX7_tide_0 : decode cX7_tide 0 = .ok (.iload_n 1, 1) := by decide +kernel
theorem dX7_tide_1 : decode cX7_tide 1 = .ok (.ifCond .lt 9, 3) := by decide +kernel
theorem dX7_tide_4 : decode cX7_tide 4 = .ok (.iload_n 1, 1) := by decide +kernel
theorem dX7_tide_5 : decode cX7_tide 5 = .ok (.bipush 40, 2) := by decide +kernel
theorem dX7_tide_7 : decode cX7_tide 7 = .ok (.if_icmp .le 6, 3) := by decide +kernel
theorem dX7_tide_10 : decode cX7_tide 10 = .ok (.bipush (-2), 2) := by decide +kernel
theorem dX7_tide_12 : decode cX7_tide 12 = .ok (.ireturn, 1) := by decide +kernel
theorem dX7_tide_13 : decode cX7_tide 13 = .ok (.aload_n 0, 1) := by decide +kernel
theorem dX7_tide_14 : decode cX7_tide 14 = .ok (.getfield 10, 3) := by decide +kernel
theorem dX7_tide_17 : decode cX7_tide 17 = .ok (.getfield 87, 3) := by decide +kernel
theorem dX7_tide_20 : decode cX7_tide 20 = .ok (.istore_n 2, 1) := by decide +kernel
theorem dX7_tide_21 : decode cX7_tide 21 = .ok (.aload_n 0, 1) := by decide +kernel
theorem dX7_tide_22 : decode cX7_tide 22 = .ok (.getfield 10, 3) := by decide +kernel
theorem dX7_tide_25 : decode cX7_tide 25 = .ok (.iload_n 1, 1) := by decide +kernel
theorem dX7_tide_26 : decode cX7_tide 26 = .ok (.putfield 87, 3) := by decide +kernel
theorem dX7_tide_29 : decode cX7_tide 29 = .ok (.iload_n 2, 1) := by decide +kernel
theorem dX7_tide_30 : decode cX7_tide 30 = .ok (.ireturn, 1) := by decide +kernel
theorem dX7_line_0 : decode cX7_line 0 = .ok (.iload_n 1, 1) := by decide +kernel
theorem dX7_line_1 : decode cX7_line 1 = .ok (.invokestatic 90, 3) := by decide +kernel
theorem dX7_line_4 : decode cX7_line 4 = .ok (.ifCond .eq 21, 3) := by decide +kernel
theorem dX7_line_7 : decode cX7_line 7 = .ok (.iload_n 2, 1) := by decide +kernel
theorem dX7_line_8 : decode cX7_line 8 = .ok (.bipush 99, 2) := by decide +kernel
theorem dX7_line_10 : decode cX7_line 10 = .ok (.invokestatic 79, 3) := by decide +kernel
theorem dX7_line_13 : decode cX7_line 13 = .ok (.ifCond .eq 12, 3) := by decide +kernel
theorem dX7_line_16 : decode cX7_line 16 = .ok (.iload_n 3, 1) := by decide +kernel
theorem dX7_line_17 : decode cX7_line 17 = .ok (.bipush 9, 2) := by decide +kernel
theorem dX7_line_19 : decode cX7_line 19 = .ok (.invokestatic 79, 3) := by decide +kernel
theorem dX7_line_22 : decode cX7_line 22 = .ok (.ifCond .ne 6, 3) := by decide +kernel
theorem dX7_line_25 : decode cX7_line 25 = .ok (.bipush (-2), 2) := by decide +kernel
theorem dX7_line_27 : decode cX7_line 27 = .ok (.ireturn, 1) := by decide +kernel
theorem dX7_line_28 : decode cX7_line 28 = .ok (.aload_n 0, 1) := by decide +kernel
theorem dX7_line_29 : decode cX7_line 29 = .ok (.getfield 10, 3) := by decide +kernel
theorem dX7_line_32 : decode cX7_line 32 = .ok (.getfield 93, 3) := by decide +kernel
theorem dX7_line_35 : decode cX7_line 35 = .ok (.bipush 6, 2) := by decide +kernel
theorem dX7_line_37 : decode cX7_line 37 = .ok (.if_icmp .lt 6, 3) := by decide +kernel
theorem dX7_line_40 : decode cX7_line 40 = .ok (.bipush (-4), 2) := by decide +kernel
theorem dX7_line_42 : decode cX7_line 42 = .ok (.ireturn, 1) := by decide +kernel
theorem dX7_line_43 : decode cX7_line 43 = .ok (.aload_n 0, 1) := by decide +kernel
theorem dX7_line_44 : decode cX7_line 44 = .ok (.getfield 10, 3) := by decide +kernel
theorem dX7_line_47 : decode cX7_line 47 = .ok (.iload_n 1, 1) := by decide +kernel
theorem dX7_line_48 : decode cX7_line 48 = .ok (.iload_n 2, 1) := by decide +kernel
theorem dX7_line_49 : decode cX7_line 49 = .ok (.iload_n 3, 1) := by decide +kernel
theorem dX7_line_50 : decode cX7_line 50 = .ok (.invokevirtual 96, 3) := by decide +kernel
theorem dX7_line_53 : decode cX7_line 53 = .ok (.ireturn, 1) := by decide +kernel
theorem dX7_slope_0 : decode cX7_slope 0 = .ok (.aload_n 0, 1) := by decide +kernel
theorem dX7_slope_1 : decode cX7_slope 1 = .ok (.iload_n 1, 1) := by decide +kernel
theorem dX7_slope_2 : decode cX7_slope 2 = .ok (.invokevirtual 100, 3) := by decide +kernel
theorem dX7_slope_5 : decode cX7_slope 5 = .ok (.ifCond .eq 21, 3) := by decide +kernel
theorem dX7_slope_8 : decode cX7_slope 8 = .ok (.iload_n 2, 1) := by decide +kernel
theorem dX7_slope_9 : decode cX7_slope 9 = .ok (.ifCond .lt 17, 3) := by decide +kernel
theorem dX7_slope_12 : decode cX7_slope 12 = .ok (.iload_n 2, 1) := by decide +kernel
theorem dX7_slope_13 : decode cX7_slope 13 = .ok (.iconst 3, 1) := by decide +kernel
theorem dX7_slope_14 : decode cX7_slope 14 = .ok (.if_icmp .ge 12, 3) := by decide +kernel
theorem dX7_slope_17 : decode cX7_slope 17 = .ok (.iload_n 3, 1) := by decide +kernel
theorem dX7_slope_18 : decode cX7_slope 18 = .ok (.bipush 9, 2) := by decide +kernel
theorem dX7_slope_20 : decode cX7_slope 20 = .ok (.invokestatic 79, 3) := by decide +kernel
theorem dX7_slope_23 : decode cX7_slope 23 = .ok (.ifCond .ne 6, 3) := by decide +kernel
theorem dX7_slope_26 : decode cX7_slope 26 = .ok (.bipush (-2), 2) := by decide +kernel
theorem dX7_slope_28 : decode cX7_slope 28 = .ok (.ireturn, 1) := by decide +kernel
theorem dX7_slope_29 : decode cX7_slope 29 = .ok (.aload_n 0, 1) := by decide +kernel
theorem dX7_slope_30 : decode cX7_slope 30 = .ok (.getfield 10, 3) := by decide +kernel
theorem dX7_slope_33 : decode cX7_slope 33 = .ok (.getfield 103, 3) := by decide +kernel
theorem dX7_slope_36 : decode cX7_slope 36 = .ok (.iload_n 1, 1) := by decide +kernel
theorem dX7_slope_37 : decode cX7_slope 37 = .ok (.iconst 3, 1) := by decide +kernel
theorem dX7_slope_38 : decode cX7_slope 38 = .ok (.imul, 1) := by decide +kernel
theorem dX7_slope_39 : decode cX7_slope 39 = .ok (.iload_n 2, 1) := by decide +kernel
theorem dX7_slope_40 : decode cX7_slope 40 = .ok (.iadd, 1) := by decide +kernel
theorem dX7_slope_41 : decode cX7_slope 41 = .ok (.iaload, 1) := by decide +kernel
theorem dX7_slope_42 : decode cX7_slope 42 = .ok (.istore 4, 2) := by decide +kernel
theorem dX7_slope_44 : decode cX7_slope 44 = .ok (.aload_n 0, 1) := by decide +kernel
theorem dX7_slope_45 : decode cX7_slope 45 = .ok (.getfield 10, 3) := by decide +kernel
theorem dX7_slope_48 : decode cX7_slope 48 = .ok (.getfield 103, 3) := by decide +kernel
theorem dX7_slope_51 : decode cX7_slope 51 = .ok (.iload_n 1, 1) := by decide +kernel
theorem dX7_slope_52 : decode cX7_slope 52 = .ok (.iconst 3, 1) := by decide +kernel
theorem dX7_slope_53 : decode cX7_slope 53 = .ok (.imul, 1) := by decide +kernel
theorem dX7_slope_54 : decode cX7_slope 54 = .ok (.iload_n 2, 1) := by decide +kernel
theorem dX7_slope_55 : decode cX7_slope 55 = .ok (.iadd, 1) := by decide +kernel
theorem dX7_slope_56 : decode cX7_slope 56 = .ok (.iload_n 3, 1) := by decide +kernel
theorem dX7_slope_57 : decode cX7_slope 57 = .ok (.iastore, 1) := by decide +kernel
theorem dX7_slope_58 : decode cX7_slope 58 = .ok (.iload 4, 2) := by decide +kernel
theorem dX7_slope_60 : decode cX7_slope 60 = .ok (.ireturn, 1) := by decide +kernel
theorem dX7_change_0 : decode cX7_change 0 = .ok (.aload_n 0, 1) := by decide +kernel
theorem dX7_change_1 : decode cX7_change 1 = .ok (.iload_n 1, 1) := by decide +kernel
theorem dX7_change_2 : decode cX7_change 2 = .ok (.invokevirtual 100, 3) := by decide +kernel
theorem dX7_change_5 : decode cX7_change 5 = .ok (.ifCond .eq 11, 3) := by decide +kernel
theorem dX7_change_8 : decode cX7_change 8 = .ok (.iload_n 2, 1) := by decide +kernel
theorem dX7_change_9 : decode cX7_change 9 = .ok (.iload_n 3, 1) := by decide +kernel
theorem dX7_change_10 : decode cX7_change 10 = .ok (.invokestatic 106, 3) := by decide +kernel
theorem dX7_change_13 : decode cX7_change 13 = .ok (.ifCond .ne 6, 3) := by decide +kernel
theorem dX7_change_16 : decode cX7_change 16 = .ok (.bipush (-2), 2) := by decide +kernel
theorem dX7_change_18 : decode cX7_change 18 = .ok (.ireturn, 1) := by decide +kernel
theorem dX7_change_19 : decode cX7_change 19 = .ok (.iload_n 2, 1) := by decide +kernel
theorem dX7_change_20 : decode cX7_change 20 = .ok (.ifCond .ne 13, 3) := by decide +kernel
theorem dX7_change_23 : decode cX7_change 23 = .ok (.aload_n 0, 1) := by decide +kernel
theorem dX7_change_24 : decode cX7_change 24 = .ok (.getfield 10, 3) := by decide +kernel
theorem dX7_change_27 : decode cX7_change 27 = .ok (.getfield 109, 3) := by decide +kernel
theorem dX7_change_30 : decode cX7_change 30 = .ok (.goto 25, 3) := by decide +kernel
theorem dX7_change_33 : decode cX7_change 33 = .ok (.iload_n 2, 1) := by decide +kernel
theorem dX7_change_34 : decode cX7_change 34 = .ok (.iconst 1, 1) := by decide +kernel
theorem dX7_change_35 : decode cX7_change 35 = .ok (.if_icmp .ne 13, 3) := by decide +kernel
theorem dX7_change_38 : decode cX7_change 38 = .ok (.aload_n 0, 1) := by decide +kernel
theorem dX7_change_39 : decode cX7_change 39 = .ok (.getfield 10, 3) := by decide +kernel
theorem dX7_change_42 : decode cX7_change 42 = .ok (.getfield 112, 3) := by decide +kernel
theorem dX7_change_45 : decode cX7_change 45 = .ok (.goto 10, 3) := by decide +kernel
theorem dX7_change_48 : decode cX7_change 48 = .ok (.aload_n 0, 1) := by decide +kernel
theorem dX7_change_49 : decode cX7_change 49 = .ok (.getfield 10, 3) := by decide +kernel
theorem dX7_change_52 : decode cX7_change 52 = .ok (.getfield 115, 3) := by decide +kernel
theorem dX7_change_55 : decode cX7_change 55 = .ok (.astore 4, 2) := by decide +kernel
theorem dX7_change_57 : decode cX7_change 57 = .ok (.aload 4, 2) := by decide +kernel
theorem dX7_change_59 : decode cX7_change 59 = .ok (.iload_n 1, 1) := by decide +kernel
theorem dX7_change_60 : decode cX7_change 60 = .ok (.iaload, 1) := by decide +kernel
theorem dX7_change_61 : decode cX7_change 61 = .ok (.istore 5, 2) := by decide +kernel
theorem dX7_change_63 : decode cX7_change 63 = .ok (.aload 4, 2) := by decide +kernel
theorem dX7_change_65 : decode cX7_change 65 = .ok (.iload_n 1, 1) := by decide +kernel
theorem dX7_change_66 : decode cX7_change 66 = .ok (.iload_n 3, 1) := by decide +kernel
theorem dX7_change_67 : decode cX7_change 67 = .ok (.iastore, 1) := by decide +kernel
theorem dX7_change_68 : decode cX7_change 68 = .ok (.iload 5, 2) := by decide +kernel
theorem dX7_change_70 : decode cX7_change 70 = .ok (.ireturn, 1) := by decide +kernel
theorem dX7_drop_0 : decode cX7_drop 0 = .ok (.aload_n 0, 1) := by decide +kernel
theorem dX7_drop_1 : decode cX7_drop 1 = .ok (.iload_n 1, 1) := by decide +kernel
theorem dX7_drop_2 : decode cX7_drop 2 = .ok (.invokevirtual 100, 3) := by decide +kernel
theorem dX7_drop_5 : decode cX7_drop 5 = .ok (.ifCond .ne 6, 3) := by decide +kernel
theorem dX7_drop_8 : decode cX7_drop 8 = .ok (.bipush (-2), 2) := by decide +kernel
theorem dX7_drop_10 : decode cX7_drop 10 = .ok (.ireturn, 1) := by decide +kernel
theorem dX7_drop_11 : decode cX7_drop 11 = .ok (.aload_n 0, 1) := by decide +kernel
theorem dX7_drop_12 : decode cX7_drop 12 = .ok (.getfield 10, 3) := by decide +kernel
theorem dX7_drop_15 : decode cX7_drop 15 = .ok (.iload_n 1, 1) := by decide +kernel
theorem dX7_drop_16 : decode cX7_drop 16 = .ok (.invokevirtual 118, 3) := by decide +kernel
theorem dX7_drop_19 : decode cX7_drop 19 = .ok (.aload_n 0, 1) := by decide +kernel
theorem dX7_drop_20 : decode cX7_drop 20 = .ok (.getfield 10, 3) := by decide +kernel
theorem dX7_drop_23 : decode cX7_drop 23 = .ok (.getfield 93, 3) := by decide +kernel
theorem dX7_drop_26 : decode cX7_drop 26 = .ok (.ireturn, 1) := by decide +kernel
theorem dX7_lineOf_0 : decode cX7_lineOf 0 = .ok (.aload_n 0, 1) := by decide +kernel
theorem dX7_lineOf_1 : decode cX7_lineOf 1 = .ok (.iload_n 1, 1) := by decide +kernel
theorem dX7_lineOf_2 : decode cX7_lineOf 2 = .ok (.invokevirtual 100, 3) := by decide +kernel
theorem dX7_lineOf_5 : decode cX7_lineOf 5 = .ok (.ifCond .ne 6, 3) := by decide +kernel
theorem dX7_lineOf_8 : decode cX7_lineOf 8 = .ok (.bipush (-2), 2) := by decide +kernel
theorem dX7_lineOf_10 : decode cX7_lineOf 10 = .ok (.ireturn, 1) := by decide +kernel
theorem dX7_lineOf_11 : decode cX7_lineOf 11 = .ok (.iload_n 2, 1) := by decide +kernel
theorem dX7_lineOf_12 : decode cX7_lineOf 12 = .ok (.tableswitch 116 0 6 #[44, 54, 64, 74, 90, 90, 90], 44) := by decide +kernel
theorem dX7_lineOf_56 : decode cX7_lineOf 56 = .ok (.aload_n 0, 1) := by decide +kernel
theorem dX7_lineOf_57 : decode cX7_lineOf 57 = .ok (.getfield 10, 3) := by decide +kernel
theorem dX7_lineOf_60 : decode cX7_lineOf 60 = .ok (.getfield 109, 3) := by decide +kernel
theorem dX7_lineOf_63 : decode cX7_lineOf 63 = .ok (.iload_n 1, 1) := by decide +kernel
theorem dX7_lineOf_64 : decode cX7_lineOf 64 = .ok (.iaload, 1) := by decide +kernel
theorem dX7_lineOf_65 : decode cX7_lineOf 65 = .ok (.ireturn, 1) := by decide +kernel
theorem dX7_lineOf_66 : decode cX7_lineOf 66 = .ok (.aload_n 0, 1) := by decide +kernel
theorem dX7_lineOf_67 : decode cX7_lineOf 67 = .ok (.getfield 10, 3) := by decide +kernel
theorem dX7_lineOf_70 : decode cX7_lineOf 70 = .ok (.getfield 112, 3) := by decide +kernel
theorem dX7_lineOf_73 : decode cX7_lineOf 73 = .ok (.iload_n 1, 1) := by decide +kernel
theorem dX7_lineOf_74 : decode cX7_lineOf 74 = .ok (.iaload, 1) := by decide +kernel
theorem dX7_lineOf_75 : decode cX7_lineOf 75 = .ok (.ireturn, 1) := by decide +kernel
theorem dX7_lineOf_76 : decode cX7_lineOf 76 = .ok (.aload_n 0, 1) := by decide +kernel
theorem dX7_lineOf_77 : decode cX7_lineOf 77 = .ok (.getfield 10, 3) := by decide +kernel
theorem dX7_lineOf_80 : decode cX7_lineOf 80 = .ok (.getfield 115, 3) := by decide +kernel
theorem dX7_lineOf_83 : decode cX7_lineOf 83 = .ok (.iload_n 1, 1) := by decide +kernel
theorem dX7_lineOf_84 : decode cX7_lineOf 84 = .ok (.iaload, 1) := by decide +kernel
theorem dX7_lineOf_85 : decode cX7_lineOf 85 = .ok (.ireturn, 1) := by decide +kernel
theorem dX7_lineOf_86 : decode cX7_lineOf 86 = .ok (.aload_n 0, 1) := by decide +kernel
theorem dX7_lineOf_87 : decode cX7_lineOf 87 = .ok (.getfield 10, 3) := by decide +kernel
theorem dX7_lineOf_90 : decode cX7_lineOf 90 = .ok (.iload_n 1, 1) := by decide +kernel
theorem dX7_lineOf_91 : decode cX7_lineOf 91 = .ok (.aload_n 0, 1) := by decide +kernel
theorem dX7_lineOf_92 : decode cX7_lineOf 92 = .ok (.getfield 10, 3) := by decide +kernel
theorem dX7_lineOf_95 : decode cX7_lineOf 95 = .ok (.getfield 87, 3) := by decide +kernel
theorem dX7_lineOf_98 : decode cX7_lineOf 98 = .ok (.invokevirtual 121, 3) := by decide +kernel
theorem dX7_lineOf_101 : decode cX7_lineOf 101 = .ok (.ireturn, 1) := by decide +kernel
theorem dX7_lineOf_102 : decode cX7_lineOf 102 = .ok (.aload_n 0, 1) := by decide +kernel
theorem dX7_lineOf_103 : decode cX7_lineOf 103 = .ok (.iload_n 2, 1) := by decide +kernel
theorem dX7_lineOf_104 : decode cX7_lineOf 104 = .ok (.iconst 4, 1) := by decide +kernel
theorem dX7_lineOf_105 : decode cX7_lineOf 105 = .ok (.isub, 1) := by decide +kernel
theorem dX7_lineOf_106 : decode cX7_lineOf 106 = .ok (.invokevirtual 63, 3) := by decide +kernel
theorem dX7_lineOf_109 : decode cX7_lineOf 109 = .ok (.ifCond .eq 17, 3) := by decide +kernel
theorem dX7_lineOf_112 : decode cX7_lineOf 112 = .ok (.aload_n 0, 1) := by decide +kernel
theorem dX7_lineOf_113 : decode cX7_lineOf 113 = .ok (.getfield 10, 3) := by decide +kernel
theorem dX7_lineOf_116 : decode cX7_lineOf 116 = .ok (.iload_n 1, 1) := by decide +kernel
theorem dX7_lineOf_117 : decode cX7_lineOf 117 = .ok (.iload_n 2, 1) := by decide +kernel
theorem dX7_lineOf_118 : decode cX7_lineOf 118 = .ok (.iconst 4, 1) := by decide +kernel
theorem dX7_lineOf_119 : decode cX7_lineOf 119 = .ok (.isub, 1) := by decide +kernel
theorem dX7_lineOf_120 : decode cX7_lineOf 120 = .ok (.invokevirtual 124, 3) := by decide +kernel
theorem dX7_lineOf_123 : decode cX7_lineOf 123 = .ok (.goto 4, 3) := by decide +kernel
theorem dX7_lineOf_126 : decode cX7_lineOf 126 = .ok (.iconst 0, 1) := by decide +kernel
theorem dX7_lineOf_127 : decode cX7_lineOf 127 = .ok (.ireturn, 1) := by decide +kernel
theorem dX7_lineOf_128 : decode cX7_lineOf 128 = .ok (.bipush (-2), 2) := by decide +kernel
theorem dX7_lineOf_130 : decode cX7_lineOf 130 = .ok (.ireturn, 1) := by decide +kernel
theorem dX7_minor_0 : decode cX7_minor 0 = .ok (.iload_n 1, 1) := by decide +kernel
theorem dX7_minor_1 : decode cX7_minor 1 = .ok (.iconst 1, 1) := by decide +kernel
theorem dX7_minor_2 : decode cX7_minor 2 = .ok (.if_icmp .lt 14, 3) := by decide +kernel
theorem dX7_minor_5 : decode cX7_minor 5 = .ok (.iload_n 1, 1) := by decide +kernel
theorem dX7_minor_6 : decode cX7_minor 6 = .ok (.aload_n 0, 1) := by decide +kernel
theorem dX7_minor_7 : decode cX7_minor 7 = .ok (.getfield 10, 3) := by decide +kernel
theorem dX7_minor_10 : decode cX7_minor 10 = .ok (.getfield 59, 3) := by decide +kernel
theorem dX7_minor_13 : decode cX7_minor 13 = .ok (.if_icmp .le 8, 3) := by decide +kernel
theorem dX7_minor_16 : decode cX7_minor 16 = .ok (.bipush (-2), 2) := by decide +kernel
theorem dX7_minor_18 : decode cX7_minor 18 = .ok (.goto 11, 3) := by decide +kernel
theorem dX7_minor_21 : decode cX7_minor 21 = .ok (.aload_n 0, 1) := by decide +kernel
theorem dX7_minor_22 : decode cX7_minor 22 = .ok (.getfield 10, 3) := by decide +kernel
theorem dX7_minor_25 : decode cX7_minor 25 = .ok (.iload_n 1, 1) := by decide +kernel
theorem dX7_minor_26 : decode cX7_minor 26 = .ok (.invokevirtual 127, 3) := by decide +kernel
theorem dX7_minor_29 : decode cX7_minor 29 = .ok (.ireturn, 1) := by decide +kernel
theorem dX7_isProper_0 : decode cX7_isProper 0 = .ok (.aload_n 0, 1) := by decide +kernel
theorem dX7_isProper_1 : decode cX7_isProper 1 = .ok (.getfield 10, 3) := by decide +kernel
theorem dX7_isProper_4 : decode cX7_isProper 4 = .ok (.invokevirtual 131, 3) := by decide +kernel
theorem dX7_isProper_7 : decode cX7_isProper 7 = .ok (.ifCond .eq 7, 3) := by decide +kernel
theorem dX7_isProper_10 : decode cX7_isProper 10 = .ok (.iconst 1, 1) := by decide +kernel
theorem dX7_isProper_11 : decode cX7_isProper 11 = .ok (.goto 4, 3) := by decide +kernel
theorem dX7_isProper_14 : decode cX7_isProper 14 = .ok (.iconst 0, 1) := by decide +kernel
theorem dX7_isProper_15 : decode cX7_isProper 15 = .ok (.ireturn, 1) := by decide +kernel
theorem dX7_working_0 : decode cX7_working 0 = .ok (.aload_n 0, 1) := by decide +kernel
theorem dX7_working_1 : decode cX7_working 1 = .ok (.aload_n 0, 1) := by decide +kernel
theorem dX7_working_2 : decode cX7_working 2 = .ok (.iload_n 1, 1) := by decide +kernel
theorem dX7_working_3 : decode cX7_working 3 = .ok (.invokevirtual 135, 3) := by decide +kernel
theorem dX7_working_6 : decode cX7_working 6 = .ok (.ifCond .ne 7, 3) := by decide +kernel
theorem dX7_working_9 : decode cX7_working 9 = .ok (.iconst 1, 1) := by decide +kernel
theorem dX7_working_10 : decode cX7_working 10 = .ok (.goto 4, 3) := by decide +kernel
theorem dX7_working_13 : decode cX7_working 13 = .ok (.iconst 0, 1) := by decide +kernel
theorem dX7_working_14 : decode cX7_working 14 = .ok (.iload_n 1, 1) := by decide +kernel
theorem dX7_working_15 : decode cX7_working 15 = .ok (.invokevirtual 138, 3) := by decide +kernel
theorem dX7_working_18 : decode cX7_working 18 = .ok (.ireturn, 1) := by decide +kernel
theorem dX7_answer_0 : decode cX7_answer 0 = .ok (.aload_n 0, 1) := by decide +kernel
theorem dX7_answer_1 : decode cX7_answer 1 = .ok (.aload_n 0, 1) := by decide +kernel
theorem dX7_answer_2 : decode cX7_answer 2 = .ok (.iload_n 1, 1) := by decide +kernel
theorem dX7_answer_3 : decode cX7_answer 3 = .ok (.invokevirtual 135, 3) := by decide +kernel
theorem dX7_answer_6 : decode cX7_answer 6 = .ok (.ifCond .eq 18, 3) := by decide +kernel
theorem dX7_answer_9 : decode cX7_answer 9 = .ok (.aload_n 0, 1) := by decide +kernel
theorem dX7_answer_10 : decode cX7_answer 10 = .ok (.iload_n 2, 1) := by decide +kernel
theorem dX7_answer_11 : decode cX7_answer 11 = .ok (.invokevirtual 63, 3) := by decide +kernel
theorem dX7_answer_14 : decode cX7_answer 14 = .ok (.ifCond .eq 10, 3) := by decide +kernel
theorem dX7_answer_17 : decode cX7_answer 17 = .ok (.iload_n 3, 1) := by decide +kernel
theorem dX7_answer_18 : decode cX7_answer 18 = .ok (.invokestatic 142, 3) := by decide +kernel
theorem dX7_answer_21 : decode cX7_answer 21 = .ok (.ifCond .ne 7, 3) := by decide +kernel
theorem dX7_answer_24 : decode cX7_answer 24 = .ok (.iconst 1, 1) := by decide +kernel
theorem dX7_answer_25 : decode cX7_answer 25 = .ok (.goto 4, 3) := by decide +kernel
theorem dX7_answer_28 : decode cX7_answer 28 = .ok (.iconst 0, 1) := by decide +kernel
theorem dX7_answer_29 : decode cX7_answer 29 = .ok (.iload_n 1, 1) := by decide +kernel
theorem dX7_answer_30 : decode cX7_answer 30 = .ok (.invokevirtual 138, 3) := by decide +kernel
theorem dX7_answer_33 : decode cX7_answer 33 = .ok (.istore 4, 2) := by decide +kernel
theorem dX7_answer_35 : decode cX7_answer 35 = .ok (.iload 4, 2) := by decide +kernel
theorem dX7_answer_37 : decode cX7_answer 37 = .ok (.ifCond .ge 11, 3) := by decide +kernel
theorem dX7_answer_40 : decode cX7_answer 40 = .ok (.ldc2_w 145, 3) := by decide +kernel
theorem dX7_answer_43 : decode cX7_answer 43 = .ok (.iload 4, 2) := by decide +kernel
theorem dX7_answer_45 : decode cX7_answer 45 = .ok (.i2l, 1) := by decide +kernel
theorem dX7_answer_46 : decode cX7_answer 46 = .ok (.ladd, 1) := by decide +kernel
theorem dX7_answer_47 : decode cX7_answer 47 = .ok (.lreturn, 1) := by decide +kernel
theorem dX7_answer_48 : decode cX7_answer 48 = .ok (.aload_n 0, 1) := by decide +kernel
theorem dX7_answer_49 : decode cX7_answer 49 = .ok (.getfield 27, 3) := by decide +kernel
theorem dX7_answer_52 : decode cX7_answer 52 = .ok (.getfield 147, 3) := by decide +kernel
theorem dX7_answer_55 : decode cX7_answer 55 = .ok (.getfield 151, 3) := by decide +kernel
theorem dX7_answer_58 : decode cX7_answer 58 = .ok (.iload_n 2, 1) := by decide +kernel
theorem dX7_answer_59 : decode cX7_answer 59 = .ok (.laload, 1) := by decide +kernel
theorem dX7_answer_60 : decode cX7_answer 60 = .ok (.aload_n 0, 1) := by decide +kernel
theorem dX7_answer_61 : decode cX7_answer 61 = .ok (.getfield 27, 3) := by decide +kernel
theorem dX7_answer_64 : decode cX7_answer 64 = .ok (.getfield 147, 3) := by decide +kernel
theorem dX7_answer_67 : decode cX7_answer 67 = .ok (.getfield 157, 3) := by decide +kernel
theorem dX7_answer_70 : decode cX7_answer 70 = .ok (.iload_n 3, 1) := by decide +kernel
theorem dX7_answer_71 : decode cX7_answer 71 = .ok (.invokestatic 161, 3) := by decide +kernel
theorem dX7_answer_74 : decode cX7_answer 74 = .ok (.lreturn, 1) := by decide +kernel
theorem dX7_worth_0 : decode cX7_worth 0 = .ok (.aload_n 0, 1) := by decide +kernel
theorem dX7_worth_1 : decode cX7_worth 1 = .ok (.aload_n 0, 1) := by decide +kernel
theorem dX7_worth_2 : decode cX7_worth 2 = .ok (.iload_n 1, 1) := by decide +kernel
theorem dX7_worth_3 : decode cX7_worth 3 = .ok (.invokevirtual 135, 3) := by decide +kernel
theorem dX7_worth_6 : decode cX7_worth 6 = .ok (.ifCond .eq 10, 3) := by decide +kernel
theorem dX7_worth_9 : decode cX7_worth 9 = .ok (.iload_n 2, 1) := by decide +kernel
theorem dX7_worth_10 : decode cX7_worth 10 = .ok (.invokestatic 142, 3) := by decide +kernel
theorem dX7_worth_13 : decode cX7_worth 13 = .ok (.ifCond .ne 7, 3) := by decide +kernel
theorem dX7_worth_16 : decode cX7_worth 16 = .ok (.iconst 1, 1) := by decide +kernel
theorem dX7_worth_17 : decode cX7_worth 17 = .ok (.goto 4, 3) := by decide +kernel
theorem dX7_worth_20 : decode cX7_worth 20 = .ok (.iconst 0, 1) := by decide +kernel
theorem dX7_worth_21 : decode cX7_worth 21 = .ok (.iload_n 1, 1) := by decide +kernel
theorem dX7_worth_22 : decode cX7_worth 22 = .ok (.invokevirtual 138, 3) := by decide +kernel
theorem dX7_worth_25 : decode cX7_worth 25 = .ok (.istore_n 3, 1) := by decide +kernel
theorem dX7_worth_26 : decode cX7_worth 26 = .ok (.iload_n 3, 1) := by decide +kernel
theorem dX7_worth_27 : decode cX7_worth 27 = .ok (.ifCond .ge 10, 3) := by decide +kernel
theorem dX7_worth_30 : decode cX7_worth 30 = .ok (.ldc2_w 145, 3) := by decide +kernel
theorem dX7_worth_33 : decode cX7_worth 33 = .ok (.iload_n 3, 1) := by decide +kernel
theorem dX7_worth_34 : decode cX7_worth 34 = .ok (.i2l, 1) := by decide +kernel
theorem dX7_worth_35 : decode cX7_worth 35 = .ok (.ladd, 1) := by decide +kernel
theorem dX7_worth_36 : decode cX7_worth 36 = .ok (.lreturn, 1) := by decide +kernel
theorem dX7_worth_37 : decode cX7_worth 37 = .ok (.aload_n 0, 1) := by decide +kernel
theorem dX7_worth_38 : decode cX7_worth 38 = .ok (.getfield 27, 3) := by decide +kernel
theorem dX7_worth_41 : decode cX7_worth 41 = .ok (.invokevirtual 167, 3) := by decide +kernel
theorem dX7_worth_44 : decode cX7_worth 44 = .ok (.ldc2_w 171, 3) := by decide +kernel
theorem dX7_worth_47 : decode cX7_worth 47 = .ok (.aload_n 0, 1) := by decide +kernel
theorem dX7_worth_48 : decode cX7_worth 48 = .ok (.getfield 27, 3) := by decide +kernel
theorem dX7_worth_51 : decode cX7_worth 51 = .ok (.getfield 147, 3) := by decide +kernel
theorem dX7_worth_54 : decode cX7_worth 54 = .ok (.getfield 157, 3) := by decide +kernel
theorem dX7_worth_57 : decode cX7_worth 57 = .ok (.lmul, 1) := by decide +kernel
theorem dX7_worth_58 : decode cX7_worth 58 = .ok (.iload_n 2, 1) := by decide +kernel
theorem dX7_worth_59 : decode cX7_worth 59 = .ok (.invokestatic 161, 3) := by decide +kernel
theorem dX7_worth_62 : decode cX7_worth 62 = .ok (.lreturn, 1) := by decide +kernel
theorem dX7_weight_0 : decode cX7_weight 0 = .ok (.aload_n 0, 1) := by decide +kernel
theorem dX7_weight_1 : decode cX7_weight 1 = .ok (.aload_n 0, 1) := by decide +kernel
theorem dX7_weight_2 : decode cX7_weight 2 = .ok (.iload_n 1, 1) := by decide +kernel
theorem dX7_weight_3 : decode cX7_weight 3 = .ok (.invokevirtual 135, 3) := by decide +kernel
theorem dX7_weight_6 : decode cX7_weight 6 = .ok (.ifCond .eq 26, 3) := by decide +kernel
theorem dX7_weight_9 : decode cX7_weight 9 = .ok (.aload_n 0, 1) := by decide +kernel
theorem dX7_weight_10 : decode cX7_weight 10 = .ok (.iload_n 2, 1) := by decide +kernel
theorem dX7_weight_11 : decode cX7_weight 11 = .ok (.invokevirtual 100, 3) := by decide +kernel
theorem dX7_weight_14 : decode cX7_weight 14 = .ok (.ifCond .eq 18, 3) := by decide +kernel
theorem dX7_weight_17 : decode cX7_weight 17 = .ok (.iload_n 1, 1) := by decide +kernel
theorem dX7_weight_18 : decode cX7_weight 18 = .ok (.iload_n 2, 1) := by decide +kernel
theorem dX7_weight_19 : decode cX7_weight 19 = .ok (.invokestatic 173, 3) := by decide +kernel
theorem dX7_weight_22 : decode cX7_weight 22 = .ok (.ifCond .eq 10, 3) := by decide +kernel
theorem dX7_weight_25 : decode cX7_weight 25 = .ok (.iload_n 3, 1) := by decide +kernel
theorem dX7_weight_26 : decode cX7_weight 26 = .ok (.invokestatic 142, 3) := by decide +kernel
theorem dX7_weight_29 : decode cX7_weight 29 = .ok (.ifCond .ne 7, 3) := by decide +kernel
theorem dX7_weight_32 : decode cX7_weight 32 = .ok (.iconst 1, 1) := by decide +kernel
theorem dX7_weight_33 : decode cX7_weight 33 = .ok (.goto 4, 3) := by decide +kernel
theorem dX7_weight_36 : decode cX7_weight 36 = .ok (.iconst 0, 1) := by decide +kernel
theorem dX7_weight_37 : decode cX7_weight 37 = .ok (.iload_n 1, 1) := by decide +kernel
theorem dX7_weight_38 : decode cX7_weight 38 = .ok (.invokevirtual 138, 3) := by decide +kernel
theorem dX7_weight_41 : decode cX7_weight 41 = .ok (.istore 4, 2) := by decide +kernel
theorem dX7_weight_43 : decode cX7_weight 43 = .ok (.iload 4, 2) := by decide +kernel
theorem dX7_weight_45 : decode cX7_weight 45 = .ok (.ifCond .ge 11, 3) := by decide +kernel
theorem dX7_weight_48 : decode cX7_weight 48 = .ok (.ldc2_w 145, 3) := by decide +kernel
theorem dX7_weight_51 : decode cX7_weight 51 = .ok (.iload 4, 2) := by decide +kernel
theorem dX7_weight_53 : decode cX7_weight 53 = .ok (.i2l, 1) := by decide +kernel
theorem dX7_weight_54 : decode cX7_weight 54 = .ok (.ladd, 1) := by decide +kernel
theorem dX7_weight_55 : decode cX7_weight 55 = .ok (.lreturn, 1) := by decide +kernel
theorem dX7_weight_56 : decode cX7_weight 56 = .ok (.aload_n 0, 1) := by decide +kernel
theorem dX7_weight_57 : decode cX7_weight 57 = .ok (.getfield 27, 3) := by decide +kernel
theorem dX7_weight_60 : decode cX7_weight 60 = .ok (.getfield 147, 3) := by decide +kernel
theorem dX7_weight_63 : decode cX7_weight 63 = .ok (.getfield 176, 3) := by decide +kernel
theorem dX7_weight_66 : decode cX7_weight 66 = .ok (.iload_n 2, 1) := by decide +kernel
theorem dX7_weight_67 : decode cX7_weight 67 = .ok (.laload, 1) := by decide +kernel
theorem dX7_weight_68 : decode cX7_weight 68 = .ok (.aload_n 0, 1) := by decide +kernel
theorem dX7_weight_69 : decode cX7_weight 69 = .ok (.getfield 27, 3) := by decide +kernel
theorem dX7_weight_72 : decode cX7_weight 72 = .ok (.getfield 147, 3) := by decide +kernel
theorem dX7_weight_75 : decode cX7_weight 75 = .ok (.getfield 157, 3) := by decide +kernel
theorem dX7_weight_78 : decode cX7_weight 78 = .ok (.iload_n 3, 1) := by decide +kernel
theorem dX7_weight_79 : decode cX7_weight 79 = .ok (.invokestatic 161, 3) := by decide +kernel
theorem dX7_weight_82 : decode cX7_weight 82 = .ok (.lreturn, 1) := by decide +kernel
theorem dX7_slack_0 : decode cX7_slack 0 = .ok (.aload_n 0, 1) := by decide +kernel
theorem dX7_slack_1 : decode cX7_slack 1 = .ok (.aload_n 0, 1) := by decide +kernel
theorem dX7_slack_2 : decode cX7_slack 2 = .ok (.iload_n 1, 1) := by decide +kernel
theorem dX7_slack_3 : decode cX7_slack 3 = .ok (.invokevirtual 135, 3) := by decide +kernel
theorem dX7_slack_6 : decode cX7_slack 6 = .ok (.ifCond .eq 18, 3) := by decide +kernel
theorem dX7_slack_9 : decode cX7_slack 9 = .ok (.aload_n 0, 1) := by decide +kernel
theorem dX7_slack_10 : decode cX7_slack 10 = .ok (.iload_n 2, 1) := by decide +kernel
theorem dX7_slack_11 : decode cX7_slack 11 = .ok (.invokevirtual 100, 3) := by decide +kernel
theorem dX7_slack_14 : decode cX7_slack 14 = .ok (.ifCond .eq 10, 3) := by decide +kernel
theorem dX7_slack_17 : decode cX7_slack 17 = .ok (.iload_n 3, 1) := by decide +kernel
theorem dX7_slack_18 : decode cX7_slack 18 = .ok (.invokestatic 142, 3) := by decide +kernel
theorem dX7_slack_21 : decode cX7_slack 21 = .ok (.ifCond .ne 7, 3) := by decide +kernel
theorem dX7_slack_24 : decode cX7_slack 24 = .ok (.iconst 1, 1) := by decide +kernel
theorem dX7_slack_25 : decode cX7_slack 25 = .ok (.goto 4, 3) := by decide +kernel
theorem dX7_slack_28 : decode cX7_slack 28 = .ok (.iconst 0, 1) := by decide +kernel
theorem dX7_slack_29 : decode cX7_slack 29 = .ok (.iload_n 1, 1) := by decide +kernel
theorem dX7_slack_30 : decode cX7_slack 30 = .ok (.invokevirtual 138, 3) := by decide +kernel
theorem dX7_slack_33 : decode cX7_slack 33 = .ok (.istore 4, 2) := by decide +kernel
theorem dX7_slack_35 : decode cX7_slack 35 = .ok (.iload 4, 2) := by decide +kernel
theorem dX7_slack_37 : decode cX7_slack 37 = .ok (.ifCond .ge 11, 3) := by decide +kernel
theorem dX7_slack_40 : decode cX7_slack 40 = .ok (.ldc2_w 145, 3) := by decide +kernel
theorem dX7_slack_43 : decode cX7_slack 43 = .ok (.iload 4, 2) := by decide +kernel
theorem dX7_slack_45 : decode cX7_slack 45 = .ok (.i2l, 1) := by decide +kernel
theorem dX7_slack_46 : decode cX7_slack 46 = .ok (.ladd, 1) := by decide +kernel
theorem dX7_slack_47 : decode cX7_slack 47 = .ok (.lreturn, 1) := by decide +kernel
theorem dX7_slack_48 : decode cX7_slack 48 = .ok (.aload_n 0, 1) := by decide +kernel
theorem dX7_slack_49 : decode cX7_slack 49 = .ok (.getfield 27, 3) := by decide +kernel
theorem dX7_slack_52 : decode cX7_slack 52 = .ok (.iload_n 2, 1) := by decide +kernel
theorem dX7_slack_53 : decode cX7_slack 53 = .ok (.invokevirtual 179, 3) := by decide +kernel
theorem dX7_slack_56 : decode cX7_slack 56 = .ok (.aload_n 0, 1) := by decide +kernel
theorem dX7_slack_57 : decode cX7_slack 57 = .ok (.getfield 27, 3) := by decide +kernel
theorem dX7_slack_60 : decode cX7_slack 60 = .ok (.getfield 147, 3) := by decide +kernel
theorem dX7_slack_63 : decode cX7_slack 63 = .ok (.getfield 157, 3) := by decide +kernel
theorem dX7_slack_66 : decode cX7_slack 66 = .ok (.iload_n 3, 1) := by decide +kernel
theorem dX7_slack_67 : decode cX7_slack 67 = .ok (.invokestatic 161, 3) := by decide +kernel
theorem dX7_slack_70 : decode cX7_slack 70 = .ok (.lreturn, 1) := by decide +kernel
theorem dX7_held_0 : decode cX7_held 0 = .ok (.aload_n 0, 1) := by decide +kernel
theorem dX7_held_1 : decode cX7_held 1 = .ok (.aload_n 0, 1) := by decide +kernel
theorem dX7_held_2 : decode cX7_held 2 = .ok (.iload_n 1, 1) := by decide +kernel
theorem dX7_held_3 : decode cX7_held 3 = .ok (.invokevirtual 135, 3) := by decide +kernel
theorem dX7_held_6 : decode cX7_held 6 = .ok (.ifCond .ne 7, 3) := by decide +kernel
theorem dX7_held_9 : decode cX7_held 9 = .ok (.iconst 1, 1) := by decide +kernel
theorem dX7_held_10 : decode cX7_held 10 = .ok (.goto 4, 3) := by decide +kernel
theorem dX7_held_13 : decode cX7_held 13 = .ok (.iconst 0, 1) := by decide +kernel
theorem dX7_held_14 : decode cX7_held 14 = .ok (.iload_n 1, 1) := by decide +kernel
theorem dX7_held_15 : decode cX7_held 15 = .ok (.invokevirtual 138, 3) := by decide +kernel
theorem dX7_held_18 : decode cX7_held 18 = .ok (.istore_n 2, 1) := by decide +kernel
theorem dX7_held_19 : decode cX7_held 19 = .ok (.iload_n 2, 1) := by decide +kernel
theorem dX7_held_20 : decode cX7_held 20 = .ok (.ifCond .ge 7, 3) := by decide +kernel
theorem dX7_held_23 : decode cX7_held 23 = .ok (.iload_n 2, 1) := by decide +kernel
theorem dX7_held_24 : decode cX7_held 24 = .ok (.goto 10, 3) := by decide +kernel
theorem dX7_held_27 : decode cX7_held 27 = .ok (.aload_n 0, 1) := by decide +kernel
theorem dX7_held_28 : decode cX7_held 28 = .ok (.getfield 27, 3) := by decide +kernel
theorem dX7_held_31 : decode cX7_held 31 = .ok (.invokevirtual 183, 3) := by decide +kernel
theorem dX7_held_34 : decode cX7_held 34 = .ok (.ireturn, 1) := by decide +kernel
theorem dX7_tight_0 : decode cX7_tight 0 = .ok (.aload_n 0, 1) := by decide +kernel
theorem dX7_tight_1 : decode cX7_tight 1 = .ok (.aload_n 0, 1) := by decide +kernel
theorem dX7_tight_2 : decode cX7_tight 2 = .ok (.iload_n 1, 1) := by decide +kernel
theorem dX7_tight_3 : decode cX7_tight 3 = .ok (.invokevirtual 135, 3) := by decide +kernel
theorem dX7_tight_6 : decode cX7_tight 6 = .ok (.ifCond .ne 7, 3) := by decide +kernel
theorem dX7_tight_9 : decode cX7_tight 9 = .ok (.iconst 1, 1) := by decide +kernel
theorem dX7_tight_10 : decode cX7_tight 10 = .ok (.goto 4, 3) := by decide +kernel
theorem dX7_tight_13 : decode cX7_tight 13 = .ok (.iconst 0, 1) := by decide +kernel
theorem dX7_tight_14 : decode cX7_tight 14 = .ok (.iload_n 1, 1) := by decide +kernel
theorem dX7_tight_15 : decode cX7_tight 15 = .ok (.invokevirtual 138, 3) := by decide +kernel
theorem dX7_tight_18 : decode cX7_tight 18 = .ok (.istore_n 2, 1) := by decide +kernel
theorem dX7_tight_19 : decode cX7_tight 19 = .ok (.iload_n 2, 1) := by decide +kernel
theorem dX7_tight_20 : decode cX7_tight 20 = .ok (.ifCond .ge 7, 3) := by decide +kernel
theorem dX7_tight_23 : decode cX7_tight 23 = .ok (.iload_n 2, 1) := by decide +kernel
theorem dX7_tight_24 : decode cX7_tight 24 = .ok (.goto 10, 3) := by decide +kernel
theorem dX7_tight_27 : decode cX7_tight 27 = .ok (.aload_n 0, 1) := by decide +kernel
theorem dX7_tight_28 : decode cX7_tight 28 = .ok (.getfield 27, 3) := by decide +kernel
theorem dX7_tight_31 : decode cX7_tight 31 = .ok (.invokevirtual 187, 3) := by decide +kernel
theorem dX7_tight_34 : decode cX7_tight 34 = .ok (.ireturn, 1) := by decide +kernel
theorem dX7_steps_0 : decode cX7_steps 0 = .ok (.aload_n 0, 1) := by decide +kernel
theorem dX7_steps_1 : decode cX7_steps 1 = .ok (.getfield 10, 3) := by decide +kernel
theorem dX7_steps_4 : decode cX7_steps 4 = .ok (.invokevirtual 131, 3) := by decide +kernel
theorem dX7_steps_7 : decode cX7_steps 7 = .ok (.ifCond .ne 6, 3) := by decide +kernel
theorem dX7_steps_10 : decode cX7_steps 10 = .ok (.bipush (-3), 2) := by decide +kernel
theorem dX7_steps_12 : decode cX7_steps 12 = .ok (.ireturn, 1) := by decide +kernel
theorem dX7_steps_13 : decode cX7_steps 13 = .ok (.aload_n 0, 1) := by decide +kernel
theorem dX7_steps_14 : decode cX7_steps 14 = .ok (.getfield 27, 3) := by decide +kernel
theorem dX7_steps_17 : decode cX7_steps 17 = .ok (.invokevirtual 190, 3) := by decide +kernel
theorem dX7_steps_20 : decode cX7_steps 20 = .ok (.ifCond .eq 15, 3) := by decide +kernel
theorem dX7_steps_23 : decode cX7_steps 23 = .ok (.aload_n 0, 1) := by decide +kernel
theorem dX7_steps_24 : decode cX7_steps 24 = .ok (.getfield 27, 3) := by decide +kernel
theorem dX7_steps_27 : decode cX7_steps 27 = .ok (.getfield 193, 3) := by decide +kernel
theorem dX7_steps_30 : decode cX7_steps 30 = .ok (.iconst 1, 1) := by decide +kernel
theorem dX7_steps_31 : decode cX7_steps 31 = .ok (.isub, 1) := by decide +kernel
theorem dX7_steps_32 : decode cX7_steps 32 = .ok (.goto 4, 3) := by decide +kernel
theorem dX7_steps_35 : decode cX7_steps 35 = .ok (.iconst (-1), 1) := by decide +kernel
theorem dX7_steps_36 : decode cX7_steps 36 = .ok (.ireturn, 1) := by decide +kernel
theorem dX7_walk_0 : decode cX7_walk 0 = .ok (.aload_n 0, 1) := by decide +kernel
theorem dX7_walk_1 : decode cX7_walk 1 = .ok (.getfield 10, 3) := by decide +kernel
theorem dX7_walk_4 : decode cX7_walk 4 = .ok (.invokevirtual 131, 3) := by decide +kernel
theorem dX7_walk_7 : decode cX7_walk 7 = .ok (.ifCond .ne 6, 3) := by decide +kernel
theorem dX7_walk_10 : decode cX7_walk 10 = .ok (.bipush (-3), 2) := by decide +kernel
theorem dX7_walk_12 : decode cX7_walk 12 = .ok (.ireturn, 1) := by decide +kernel
theorem dX7_walk_13 : decode cX7_walk 13 = .ok (.aload_n 0, 1) := by decide +kernel
theorem dX7_walk_14 : decode cX7_walk 14 = .ok (.getfield 27, 3) := by decide +kernel
theorem dX7_walk_17 : decode cX7_walk 17 = .ok (.invokevirtual 190, 3) := by decide +kernel
theorem dX7_walk_20 : decode cX7_walk 20 = .ok (.pop, 1) := by decide +kernel
theorem dX7_walk_21 : decode cX7_walk 21 = .ok (.iload_n 1, 1) := by decide +kernel
theorem dX7_walk_22 : decode cX7_walk 22 = .ok (.ifCond .lt 14, 3) := by decide +kernel
theorem dX7_walk_25 : decode cX7_walk 25 = .ok (.iload_n 1, 1) := by decide +kernel
theorem dX7_walk_26 : decode cX7_walk 26 = .ok (.aload_n 0, 1) := by decide +kernel
theorem dX7_walk_27 : decode cX7_walk 27 = .ok (.getfield 27, 3) := by decide +kernel
theorem dX7_walk_30 : decode cX7_walk 30 = .ok (.getfield 193, 3) := by decide +kernel
theorem dX7_walk_33 : decode cX7_walk 33 = .ok (.if_icmp .lt 8, 3) := by decide +kernel
theorem dX7_walk_36 : decode cX7_walk 36 = .ok (.bipush (-12), 2) := by decide +kernel
theorem dX7_walk_38 : decode cX7_walk 38 = .ok (.goto 12, 3) := by decide +kernel
theorem dX7_walk_41 : decode cX7_walk 41 = .ok (.aload_n 0, 1) := by decide +kernel
theorem dX7_walk_42 : decode cX7_walk 42 = .ok (.getfield 27, 3) := by decide +kernel
theorem dX7_walk_45 : decode cX7_walk 45 = .ok (.getfield 196, 3) := by decide +kernel
theorem dX7_walk_48 : decode cX7_walk 48 = .ok (.iload_n 1, 1) := by decide +kernel
theorem dX7_walk_49 : decode cX7_walk 49 = .ok (.iaload, 1) := by decide +kernel
theorem dX7_walk_50 : decode cX7_walk 50 = .ok (.ireturn, 1) := by decide +kernel
theorem dX7_pieces_0 : decode cX7_pieces 0 = .ok (.iload_n 1, 1) := by decide +kernel
theorem dX7_pieces_1 : decode cX7_pieces 1 = .ok (.iconst 1, 1) := by decide +kernel
theorem dX7_pieces_2 : decode cX7_pieces 2 = .ok (.if_icmp .lt 9, 3) := by decide +kernel
theorem dX7_pieces_5 : decode cX7_pieces 5 = .ok (.iload_n 1, 1) := by decide +kernel
theorem dX7_pieces_6 : decode cX7_pieces 6 = .ok (.bipush 40, 2) := by decide +kernel
theorem dX7_pieces_8 : decode cX7_pieces 8 = .ok (.if_icmp .le 6, 3) := by decide +kernel
theorem dX7_pieces_11 : decode cX7_pieces 11 = .ok (.bipush (-2), 2) := by decide +kernel
theorem dX7_pieces_13 : decode cX7_pieces 13 = .ok (.ireturn, 1) := by decide +kernel
theorem dX7_pieces_14 : decode cX7_pieces 14 = .ok (.aload_n 0, 1) := by decide +kernel
theorem dX7_pieces_15 : decode cX7_pieces 15 = .ok (.getfield 10, 3) := by decide +kernel
theorem dX7_pieces_18 : decode cX7_pieces 18 = .ok (.invokevirtual 131, 3) := by decide +kernel
theorem dX7_pieces_21 : decode cX7_pieces 21 = .ok (.ifCond .eq 14, 3) := by decide +kernel
theorem dX7_pieces_24 : decode cX7_pieces 24 = .ok (.aload_n 0, 1) := by decide +kernel
theorem dX7_pieces_25 : decode cX7_pieces 25 = .ok (.getfield 27, 3) := by decide +kernel
theorem dX7_pieces_28 : decode cX7_pieces 28 = .ok (.iload_n 1, 1) := by decide +kernel
theorem dX7_pieces_29 : decode cX7_pieces 29 = .ok (.invokevirtual 199, 3) := by decide +kernel
theorem dX7_pieces_32 : decode cX7_pieces 32 = .ok (.goto 5, 3) := by decide +kernel
theorem dX7_pieces_35 : decode cX7_pieces 35 = .ok (.bipush (-3), 2) := by decide +kernel
theorem dX7_pieces_37 : decode cX7_pieces 37 = .ok (.ireturn, 1) := by decide +kernel
theorem dX7_reach_0 : decode cX7_reach 0 = .ok (.aload_n 0, 1) := by decide +kernel
theorem dX7_reach_1 : decode cX7_reach 1 = .ok (.iload_n 1, 1) := by decide +kernel
theorem dX7_reach_2 : decode cX7_reach 2 = .ok (.invokestatic 142, 3) := by decide +kernel
theorem dX7_reach_5 : decode cX7_reach 5 = .ok (.ifCond .ne 7, 3) := by decide +kernel
theorem dX7_reach_8 : decode cX7_reach 8 = .ok (.iconst 1, 1) := by decide +kernel
theorem dX7_reach_9 : decode cX7_reach 9 = .ok (.goto 4, 3) := by decide +kernel
theorem dX7_reach_12 : decode cX7_reach 12 = .ok (.iconst 0, 1) := by decide +kernel
theorem dX7_reach_13 : decode cX7_reach 13 = .ok (.aload_n 0, 1) := by decide +kernel
theorem dX7_reach_14 : decode cX7_reach 14 = .ok (.getfield 10, 3) := by decide +kernel
theorem dX7_reach_17 : decode cX7_reach 17 = .ok (.invokevirtual 202, 3) := by decide +kernel
theorem dX7_reach_20 : decode cX7_reach 20 = .ok (.invokevirtual 138, 3) := by decide +kernel
theorem dX7_reach_23 : decode cX7_reach 23 = .ok (.istore_n 2, 1) := by decide +kernel
theorem dX7_reach_24 : decode cX7_reach 24 = .ok (.iload_n 2, 1) := by decide +kernel
theorem dX7_reach_25 : decode cX7_reach 25 = .ok (.ifCond .ge 10, 3) := by decide +kernel
theorem dX7_reach_28 : decode cX7_reach 28 = .ok (.ldc2_w 145, 3) := by decide +kernel
theorem dX7_reach_31 : decode cX7_reach 31 = .ok (.iload_n 2, 1) := by decide +kernel
theorem dX7_reach_32 : decode cX7_reach 32 = .ok (.i2l, 1) := by decide +kernel
theorem dX7_reach_33 : decode cX7_reach 33 = .ok (.ladd, 1) := by decide +kernel
theorem dX7_reach_34 : decode cX7_reach 34 = .ok (.lreturn, 1) := by decide +kernel
theorem dX7_reach_35 : decode cX7_reach 35 = .ok (.aload_n 0, 1) := by decide +kernel
theorem dX7_reach_36 : decode cX7_reach 36 = .ok (.getfield 27, 3) := by decide +kernel
theorem dX7_reach_39 : decode cX7_reach 39 = .ok (.invokevirtual 205, 3) := by decide +kernel
theorem dX7_reach_42 : decode cX7_reach 42 = .ok (.ifCond .ne 7, 3) := by decide +kernel
theorem dX7_reach_45 : decode cX7_reach 45 = .ok (.ldc2_w 208, 3) := by decide +kernel
theorem dX7_reach_48 : decode cX7_reach 48 = .ok (.lreturn, 1) := by decide +kernel
theorem dX7_reach_49 : decode cX7_reach 49 = .ok (.aload_n 0, 1) := by decide +kernel
theorem dX7_reach_50 : decode cX7_reach 50 = .ok (.getfield 27, 3) := by decide +kernel
theorem dX7_reach_53 : decode cX7_reach 53 = .ok (.getfield 210, 3) := by decide +kernel
theorem dX7_reach_56 : decode cX7_reach 56 = .ok (.aload_n 0, 1) := by decide +kernel
theorem dX7_reach_57 : decode cX7_reach 57 = .ok (.getfield 27, 3) := by decide +kernel
theorem dX7_reach_60 : decode cX7_reach 60 = .ok (.getfield 213, 3) := by decide +kernel
theorem dX7_reach_63 : decode cX7_reach 63 = .ok (.iload_n 1, 1) := by decide +kernel
theorem dX7_reach_64 : decode cX7_reach 64 = .ok (.invokestatic 161, 3) := by decide +kernel
theorem dX7_reach_67 : decode cX7_reach 67 = .ok (.lreturn, 1) := by decide +kernel
theorem dX7_nearest_0 : decode cX7_nearest 0 = .ok (.aload_n 0, 1) := by decide +kernel
theorem dX7_nearest_1 : decode cX7_nearest 1 = .ok (.aload_n 0, 1) := by decide +kernel
theorem dX7_nearest_2 : decode cX7_nearest 2 = .ok (.iload 4, 2) := by decide +kernel
theorem dX7_nearest_4 : decode cX7_nearest 4 = .ok (.invokevirtual 63, 3) := by decide +kernel
theorem dX7_nearest_7 : decode cX7_nearest 7 = .ok (.ifCond .eq 11, 3) := by decide +kernel
theorem dX7_nearest_10 : decode cX7_nearest 10 = .ok (.iload 5, 2) := by decide +kernel
theorem dX7_nearest_12 : decode cX7_nearest 12 = .ok (.invokestatic 142, 3) := by decide +kernel
theorem dX7_nearest_15 : decode cX7_nearest 15 = .ok (.ifCond .ne 7, 3) := by decide +kernel
theorem dX7_nearest_18 : decode cX7_nearest 18 = .ok (.iconst 1, 1) := by decide +kernel
theorem dX7_nearest_19 : decode cX7_nearest 19 = .ok (.goto 4, 3) := by decide +kernel
theorem dX7_nearest_22 : decode cX7_nearest 22 = .ok (.iconst 0, 1) := by decide +kernel
theorem dX7_nearest_23 : decode cX7_nearest 23 = .ok (.iload_n 1, 1) := by decide +kernel
theorem dX7_nearest_24 : decode cX7_nearest 24 = .ok (.iload_n 2, 1) := by decide +kernel
theorem dX7_nearest_25 : decode cX7_nearest 25 = .ok (.iload_n 3, 1) := by decide +kernel
theorem dX7_nearest_26 : decode cX7_nearest 26 = .ok (.invokevirtual 216, 3) := by decide +kernel
theorem dX7_nearest_29 : decode cX7_nearest 29 = .ok (.istore 6, 2) := by decide +kernel
theorem dX7_nearest_31 : decode cX7_nearest 31 = .ok (.iload 6, 2) := by decide +kernel
theorem dX7_nearest_33 : decode cX7_nearest 33 = .ok (.ifCond .ge 11, 3) := by decide +kernel
theorem dX7_nearest_36 : decode cX7_nearest 36 = .ok (.ldc2_w 145, 3) := by decide +kernel
theorem dX7_nearest_39 : decode cX7_nearest 39 = .ok (.iload 6, 2) := by decide +kernel
theorem dX7_nearest_41 : decode cX7_nearest 41 = .ok (.i2l, 1) := by decide +kernel
theorem dX7_nearest_42 : decode cX7_nearest 42 = .ok (.ladd, 1) := by decide +kernel
theorem dX7_nearest_43 : decode cX7_nearest 43 = .ok (.lreturn, 1) := by decide +kernel
theorem dX7_nearest_44 : decode cX7_nearest 44 = .ok (.aload_n 0, 1) := by decide +kernel
theorem dX7_nearest_45 : decode cX7_nearest 45 = .ok (.getfield 31, 3) := by decide +kernel
theorem dX7_nearest_48 : decode cX7_nearest 48 = .ok (.getfield 147, 3) := by decide +kernel
theorem dX7_nearest_51 : decode cX7_nearest 51 = .ok (.getfield 151, 3) := by decide +kernel
theorem dX7_nearest_54 : decode cX7_nearest 54 = .ok (.iload 4, 2) := by decide +kernel
theorem dX7_nearest_56 : decode cX7_nearest 56 = .ok (.laload, 1) := by decide +kernel
theorem dX7_nearest_57 : decode cX7_nearest 57 = .ok (.aload_n 0, 1) := by decide +kernel
theorem dX7_nearest_58 : decode cX7_nearest 58 = .ok (.getfield 31, 3) := by decide +kernel
theorem dX7_nearest_61 : decode cX7_nearest 61 = .ok (.getfield 147, 3) := by decide +kernel
theorem dX7_nearest_64 : decode cX7_nearest 64 = .ok (.getfield 157, 3) := by decide +kernel
theorem dX7_nearest_67 : decode cX7_nearest 67 = .ok (.iload 5, 2) := by decide +kernel
theorem dX7_nearest_69 : decode cX7_nearest 69 = .ok (.invokestatic 161, 3) := by decide +kernel
theorem dX7_nearest_72 : decode cX7_nearest 72 = .ok (.lreturn, 1) := by decide +kernel
theorem dX7_distance_0 : decode cX7_distance 0 = .ok (.aload_n 0, 1) := by decide +kernel
theorem dX7_distance_1 : decode cX7_distance 1 = .ok (.iload 4, 2) := by decide +kernel
theorem dX7_distance_3 : decode cX7_distance 3 = .ok (.invokestatic 142, 3) := by decide +kernel
theorem dX7_distance_6 : decode cX7_distance 6 = .ok (.ifCond .ne 7, 3) := by decide +kernel
theorem dX7_distance_9 : decode cX7_distance 9 = .ok (.iconst 1, 1) := by decide +kernel
theorem dX7_distance_10 : decode cX7_distance 10 = .ok (.goto 4, 3) := by decide +kernel
theorem dX7_distance_13 : decode cX7_distance 13 = .ok (.iconst 0, 1) := by decide +kernel
theorem dX7_distance_14 : decode cX7_distance 14 = .ok (.iload_n 1, 1) := by decide +kernel
theorem dX7_distance_15 : decode cX7_distance 15 = .ok (.iload_n 2, 1) := by decide +kernel
theorem dX7_distance_16 : decode cX7_distance 16 = .ok (.iload_n 3, 1) := by decide +kernel
theorem dX7_distance_17 : decode cX7_distance 17 = .ok (.invokevirtual 216, 3) := by decide +kernel
theorem dX7_distance_20 : decode cX7_distance 20 = .ok (.istore 5, 2) := by decide +kernel
theorem dX7_distance_22 : decode cX7_distance 22 = .ok (.iload 5, 2) := by decide +kernel
theorem dX7_distance_24 : decode cX7_distance 24 = .ok (.ifCond .ge 11, 3) := by decide +kernel
theorem dX7_distance_27 : decode cX7_distance 27 = .ok (.ldc2_w 145, 3) := by decide +kernel
theorem dX7_distance_30 : decode cX7_distance 30 = .ok (.iload 5, 2) := by decide +kernel
theorem dX7_distance_32 : decode cX7_distance 32 = .ok (.i2l, 1) := by decide +kernel
theorem dX7_distance_33 : decode cX7_distance 33 = .ok (.ladd, 1) := by decide +kernel
theorem dX7_distance_34 : decode cX7_distance 34 = .ok (.lreturn, 1) := by decide +kernel
theorem dX7_distance_35 : decode cX7_distance 35 = .ok (.aload_n 0, 1) := by decide +kernel
theorem dX7_distance_36 : decode cX7_distance 36 = .ok (.getfield 31, 3) := by decide +kernel
theorem dX7_distance_39 : decode cX7_distance 39 = .ok (.getfield 147, 3) := by decide +kernel
theorem dX7_distance_42 : decode cX7_distance 42 = .ok (.getfield 157, 3) := by decide +kernel
theorem dX7_distance_45 : decode cX7_distance 45 = .ok (.lstore 6, 2) := by decide +kernel
theorem dX7_distance_47 : decode cX7_distance 47 = .ok (.aload_n 0, 1) := by decide +kernel
theorem dX7_distance_48 : decode cX7_distance 48 = .ok (.getfield 31, 3) := by decide +kernel
theorem dX7_distance_51 : decode cX7_distance 51 = .ok (.invokevirtual 167, 3) := by decide +kernel
theorem dX7_distance_54 : decode cX7_distance 54 = .ok (.aload_n 0, 1) := by decide +kernel
theorem dX7_distance_55 : decode cX7_distance 55 = .ok (.getfield 19, 3) := by decide +kernel
theorem dX7_distance_58 : decode cX7_distance 58 = .ok (.invokevirtual 220, 3) := by decide +kernel
theorem dX7_distance_61 : decode cX7_distance 61 = .ok (.lload 6, 2) := by decide +kernel
theorem dX7_distance_63 : decode cX7_distance 63 = .ok (.lmul, 1) := by decide +kernel
theorem dX7_distance_64 : decode cX7_distance 64 = .ok (.ladd, 1) := by decide +kernel
theorem dX7_distance_65 : decode cX7_distance 65 = .ok (.lload 6, 2) := by decide +kernel
theorem dX7_distance_67 : decode cX7_distance 67 = .ok (.iload 4, 2) := by decide +kernel
theorem dX7_distance_69 : decode cX7_distance 69 = .ok (.invokestatic 161, 3) := by decide +kernel
theorem dX7_distance_72 : decode cX7_distance 72 = .ok (.lreturn, 1) := by decide +kernel
theorem dX7_certify_0 : decode cX7_certify 0 = .ok (.aload_n 0, 1) := by decide +kernel
theorem dX7_certify_1 : decode cX7_certify 1 = .ok (.iload_n 1, 1) := by decide +kernel
theorem dX7_certify_2 : decode cX7_certify 2 = .ok (.invokestatic 223, 3) := by decide +kernel
theorem dX7_certify_5 : decode cX7_certify 5 = .ok (.ifCond .ne 7, 3) := by decide +kernel
theorem dX7_certify_8 : decode cX7_certify 8 = .ok (.iconst 1, 1) := by decide +kernel
theorem dX7_certify_9 : decode cX7_certify 9 = .ok (.goto 4, 3) := by decide +kernel
theorem dX7_certify_12 : decode cX7_certify 12 = .ok (.iconst 0, 1) := by decide +kernel
theorem dX7_certify_13 : decode cX7_certify 13 = .ok (.aload_n 0, 1) := by decide +kernel
theorem dX7_certify_14 : decode cX7_certify 14 = .ok (.getfield 10, 3) := by decide +kernel
theorem dX7_certify_17 : decode cX7_certify 17 = .ok (.invokevirtual 202, 3) := by decide +kernel
theorem dX7_certify_20 : decode cX7_certify 20 = .ok (.invokevirtual 138, 3) := by decide +kernel
theorem dX7_certify_23 : decode cX7_certify 23 = .ok (.istore_n 2, 1) := by decide +kernel
theorem dX7_certify_24 : decode cX7_certify 24 = .ok (.iload_n 2, 1) := by decide +kernel
theorem dX7_certify_25 : decode cX7_certify 25 = .ok (.ifCond .ge 5, 3) := by decide +kernel
theorem dX7_certify_28 : decode cX7_certify 28 = .ok (.iload_n 2, 1) := by decide +kernel
theorem dX7_certify_29 : decode cX7_certify 29 = .ok (.ireturn, 1) := by decide +kernel
theorem dX7_certify_30 : decode cX7_certify 30 = .ok (.aload_n 0, 1) := by decide +kernel
theorem dX7_certify_31 : decode cX7_certify 31 = .ok (.getfield 44, 3) := by decide +kernel
theorem dX7_certify_34 : decode cX7_certify 34 = .ok (.aload_n 0, 1) := by decide +kernel
theorem dX7_certify_35 : decode cX7_certify 35 = .ok (.getfield 27, 3) := by decide +kernel
theorem dX7_certify_38 : decode cX7_certify 38 = .ok (.getfield 147, 3) := by decide +kernel
theorem dX7_certify_41 : decode cX7_certify 41 = .ok (.aload_n 0, 1) := by decide +kernel
theorem dX7_certify_42 : decode cX7_certify 42 = .ok (.getfield 37, 3) := by decide +kernel
theorem dX7_certify_45 : decode cX7_certify 45 = .ok (.iload_n 1, 1) := by decide +kernel
theorem dX7_certify_46 : decode cX7_certify 46 = .ok (.invokevirtual 226, 3) := by decide +kernel
theorem dX7_certify_49 : decode cX7_certify 49 = .ok (.aload_n 0, 1) := by decide +kernel
theorem dX7_certify_50 : decode cX7_certify 50 = .ok (.getfield 44, 3) := by decide +kernel
theorem dX7_certify_53 : decode cX7_certify 53 = .ok (.invokevirtual 230, 3) := by decide +kernel
theorem dX7_certify_56 : decode cX7_certify 56 = .ok (.ireturn, 1) := by decide +kernel
theorem dX7_check_0 : decode cX7_check 0 = .ok (.iload_n 1, 1) := by decide +kernel
theorem dX7_check_1 : decode cX7_check 1 = .ok (.invokestatic 223, 3) := by decide +kernel
theorem dX7_check_4 : decode cX7_check 4 = .ok (.ifCond .ne 6, 3) := by decide +kernel
theorem dX7_check_7 : decode cX7_check 7 = .ok (.bipush (-2), 2) := by decide +kernel
theorem dX7_check_9 : decode cX7_check 9 = .ok (.ireturn, 1) := by decide +kernel
theorem dX7_check_10 : decode cX7_check 10 = .ok (.aload_n 0, 1) := by decide +kernel
theorem dX7_check_11 : decode cX7_check 11 = .ok (.getfield 37, 3) := by decide +kernel
theorem dX7_check_14 : decode cX7_check 14 = .ok (.getfield 233, 3) := by decide +kernel
theorem dX7_check_17 : decode cX7_check 17 = .ok (.iload_n 1, 1) := by decide +kernel
theorem dX7_check_18 : decode cX7_check 18 = .ok (.iaload, 1) := by decide +kernel
theorem dX7_check_19 : decode cX7_check 19 = .ok (.iconst (-1), 1) := by decide +kernel
theorem dX7_check_20 : decode cX7_check 20 = .ok (.if_icmp .ne 6, 3) := by decide +kernel
theorem dX7_check_23 : decode cX7_check 23 = .ok (.bipush (-11), 2) := by decide +kernel
theorem dX7_check_25 : decode cX7_check 25 = .ok (.ireturn, 1) := by decide +kernel
theorem dX7_check_26 : decode cX7_check 26 = .ok (.aload_n 0, 1) := by decide +kernel
theorem dX7_check_27 : decode cX7_check 27 = .ok (.getfield 37, 3) := by decide +kernel
theorem dX7_check_30 : decode cX7_check 30 = .ok (.getfield 236, 3) := by decide +kernel
theorem dX7_check_33 : decode cX7_check 33 = .ok (.iload_n 1, 1) := by decide +kernel
theorem dX7_check_34 : decode cX7_check 34 = .ok (.iaload, 1) := by decide +kernel
theorem dX7_check_35 : decode cX7_check 35 = .ok (.aload_n 0, 1) := by decide +kernel
theorem dX7_check_36 : decode cX7_check 36 = .ok (.getfield 44, 3) := by decide +kernel
theorem dX7_check_39 : decode cX7_check 39 = .ok (.invokevirtual 230, 3) := by decide +kernel
theorem dX7_check_42 : decode cX7_check 42 = .ok (.if_icmp .eq 6, 3) := by decide +kernel
theorem dX7_check_45 : decode cX7_check 45 = .ok (.bipush (-14), 2) := by decide +kernel
theorem dX7_check_47 : decode cX7_check 47 = .ok (.ireturn, 1) := by decide +kernel
theorem dX7_check_48 : decode cX7_check 48 = .ok (.aload_n 0, 1) := by decide +kernel
theorem dX7_check_49 : decode cX7_check 49 = .ok (.getfield 37, 3) := by decide +kernel
theorem dX7_check_52 : decode cX7_check 52 = .ok (.iload_n 1, 1) := by decide +kernel
theorem dX7_check_53 : decode cX7_check 53 = .ok (.ldc2_w 239, 3) := by decide +kernel
theorem dX7_check_56 : decode cX7_check 56 = .ok (.invokevirtual 241, 3) := by decide +kernel
theorem dX7_check_59 : decode cX7_check 59 = .ok (.ifCond .ne 6, 3) := by decide +kernel
theorem dX7_check_62 : decode cX7_check 62 = .ok (.bipush (-5), 2) := by decide +kernel
theorem dX7_check_64 : decode cX7_check 64 = .ok (.ireturn, 1) := by decide +kernel
theorem dX7_check_65 : decode cX7_check 65 = .ok (.aload_n 0, 1) := by decide +kernel
theorem dX7_check_66 : decode cX7_check 66 = .ok (.getfield 44, 3) := by decide +kernel
theorem dX7_check_69 : decode cX7_check 69 = .ok (.aload_n 0, 1) := by decide +kernel
theorem dX7_check_70 : decode cX7_check 70 = .ok (.getfield 37, 3) := by decide +kernel
theorem dX7_check_73 : decode cX7_check 73 = .ok (.iload_n 1, 1) := by decide +kernel
theorem dX7_check_74 : decode cX7_check 74 = .ok (.invokevirtual 245, 3) := by decide +kernel
theorem dX7_check_77 : decode cX7_check 77 = .ok (.aload_n 0, 1) := by decide +kernel
theorem dX7_check_78 : decode cX7_check 78 = .ok (.getfield 44, 3) := by decide +kernel
theorem dX7_check_81 : decode cX7_check 81 = .ok (.invokevirtual 249, 3) := by decide +kernel
theorem dX7_check_84 : decode cX7_check 84 = .ok (.ireturn, 1) := by decide +kernel
theorem dX7_solve_0 : decode cX7_solve 0 = .ok (.aload_n 0, 1) := by decide +kernel
theorem dX7_solve_1 : decode cX7_solve 1 = .ok (.iconst 0, 1) := by decide +kernel
theorem dX7_solve_2 : decode cX7_solve 2 = .ok (.aload_n 0, 1) := by decide +kernel
theorem dX7_solve_3 : decode cX7_solve 3 = .ok (.getfield 10, 3) := by decide +kernel
theorem dX7_solve_6 : decode cX7_solve 6 = .ok (.invokevirtual 202, 3) := by decide +kernel
theorem dX7_solve_9 : decode cX7_solve 9 = .ok (.invokevirtual 138, 3) := by decide +kernel
theorem dX7_solve_12 : decode cX7_solve 12 = .ok (.istore_n 1, 1) := by decide +kernel
theorem dX7_solve_13 : decode cX7_solve 13 = .ok (.iload_n 1, 1) := by decide +kernel
theorem dX7_solve_14 : decode cX7_solve 14 = .ok (.bipush (-3), 2) := by decide +kernel
theorem dX7_solve_16 : decode cX7_solve 16 = .ok (.if_icmp .ne 6, 3) := by decide +kernel
theorem dX7_solve_19 : decode cX7_solve 19 = .ok (.bipush (-3), 2) := by decide +kernel
theorem dX7_solve_21 : decode cX7_solve 21 = .ok (.ireturn, 1) := by decide +kernel
theorem dX7_solve_22 : decode cX7_solve 22 = .ok (.aload_n 0, 1) := by decide +kernel
theorem dX7_solve_23 : decode cX7_solve 23 = .ok (.getfield 51, 3) := by decide +kernel
theorem dX7_solve_26 : decode cX7_solve 26 = .ok (.iload_n 1, 1) := by decide +kernel
theorem dX7_solve_27 : decode cX7_solve 27 = .ok (.invokevirtual 252, 3) := by decide +kernel
theorem dX7_solve_30 : decode cX7_solve 30 = .ok (.iload_n 1, 1) := by decide +kernel
theorem dX7_solve_31 : decode cX7_solve 31 = .ok (.ifCond .lt 31, 3) := by decide +kernel
theorem dX7_solve_34 : decode cX7_solve 34 = .ok (.aload_n 0, 1) := by decide +kernel
theorem dX7_solve_35 : decode cX7_solve 35 = .ok (.getfield 51, 3) := by decide +kernel
theorem dX7_solve_38 : decode cX7_solve 38 = .ok (.aload_n 0, 1) := by decide +kernel
theorem dX7_solve_39 : decode cX7_solve 39 = .ok (.getfield 27, 3) := by decide +kernel
theorem dX7_solve_42 : decode cX7_solve 42 = .ok (.invokevirtual 167, 3) := by decide +kernel
theorem dX7_solve_45 : decode cX7_solve 45 = .ok (.ldc2_w 171, 3) := by decide +kernel
theorem dX7_solve_48 : decode cX7_solve 48 = .ok (.aload_n 0, 1) := by decide +kernel
theorem dX7_solve_49 : decode cX7_solve 49 = .ok (.getfield 27, 3) := by decide +kernel
theorem dX7_solve_52 : decode cX7_solve 52 = .ok (.getfield 147, 3) := by decide +kernel
theorem dX7_solve_55 : decode cX7_solve 55 = .ok (.getfield 157, 3) := by decide +kernel
theorem dX7_solve_58 : decode cX7_solve 58 = .ok (.lmul, 1) := by decide +kernel
theorem dX7_solve_59 : decode cX7_solve 59 = .ok (.invokevirtual 255, 3) := by decide +kernel
theorem dX7_solve_62 : decode cX7_solve 62 = .ok (.iload_n 1, 1) := by decide +kernel
theorem dX7_solve_63 : decode cX7_solve 63 = .ok (.ireturn, 1) := by decide +kernel
theorem dX7_notes_0 : decode cX7_notes 0 = .ok (.aload_n 0, 1) := by decide +kernel
theorem dX7_notes_1 : decode cX7_notes 1 = .ok (.getfield 51, 3) := by decide +kernel
theorem dX7_notes_4 : decode cX7_notes 4 = .ok (.getfield 259, 3) := by decide +kernel
theorem dX7_notes_7 : decode cX7_notes 7 = .ok (.ireturn, 1) := by decide +kernel
theorem dX7_mark_0 : decode cX7_mark 0 = .ok (.aload_n 0, 1) := by decide +kernel
theorem dX7_mark_1 : decode cX7_mark 1 = .ok (.getfield 51, 3) := by decide +kernel
theorem dX7_mark_4 : decode cX7_mark 4 = .ok (.getfield 262, 3) := by decide +kernel
theorem dX7_mark_7 : decode cX7_mark 7 = .ok (.lreturn, 1) := by decide +kernel
theorem dX7_trail_0 : decode cX7_trail 0 = .ok (.iload_n 1, 1) := by decide +kernel
theorem dX7_trail_1 : decode cX7_trail 1 = .ok (.ifCond .lt 20, 3) := by decide +kernel
theorem dX7_trail_4 : decode cX7_trail 4 = .ok (.iload_n 1, 1) := by decide +kernel
theorem dX7_trail_5 : decode cX7_trail 5 = .ok (.bipush 8, 2) := by decide +kernel
theorem dX7_trail_7 : decode cX7_trail 7 = .ok (.if_icmp .ge 14, 3) := by decide +kernel
theorem dX7_trail_10 : decode cX7_trail 10 = .ok (.iload_n 1, 1) := by decide +kernel
theorem dX7_trail_11 : decode cX7_trail 11 = .ok (.aload_n 0, 1) := by decide +kernel
theorem dX7_trail_12 : decode cX7_trail 12 = .ok (.getfield 51, 3) := by decide +kernel
theorem dX7_trail_15 : decode cX7_trail 15 = .ok (.getfield 259, 3) := by decide +kernel
theorem dX7_trail_18 : decode cX7_trail 18 = .ok (.if_icmp .lt 8, 3) := by decide +kernel
theorem dX7_trail_21 : decode cX7_trail 21 = .ok (.bipush (-12), 2) := by decide +kernel
theorem dX7_trail_23 : decode cX7_trail 23 = .ok (.goto 11, 3) := by decide +kernel
theorem dX7_trail_26 : decode cX7_trail 26 = .ok (.aload_n 0, 1) := by decide +kernel
theorem dX7_trail_27 : decode cX7_trail 27 = .ok (.getfield 51, 3) := by decide +kernel
theorem dX7_trail_30 : decode cX7_trail 30 = .ok (.iload_n 1, 1) := by decide +kernel
theorem dX7_trail_31 : decode cX7_trail 31 = .ok (.invokevirtual 265, 3) := by decide +kernel
theorem dX7_trail_34 : decode cX7_trail 34 = .ok (.ireturn, 1) := by decide +kernel
theorem dX7_least_0 : decode cX7_least 0 = .ok (.iload_n 1, 1) := by decide +kernel
theorem dX7_least_1 : decode cX7_least 1 = .ok (.invokestatic 142, 3) := by decide +kernel
theorem dX7_least_4 : decode cX7_least 4 = .ok (.ifCond .ne 7, 3) := by decide +kernel
theorem dX7_least_7 : decode cX7_least 7 = .ok (.ldc2_w 268, 3) := by decide +kernel
theorem dX7_least_10 : decode cX7_least 10 = .ok (.lreturn, 1) := by decide +kernel
theorem dX7_least_11 : decode cX7_least 11 = .ok (.aload_n 0, 1) := by decide +kernel
theorem dX7_least_12 : decode cX7_least 12 = .ok (.getfield 51, 3) := by decide +kernel
theorem dX7_least_15 : decode cX7_least 15 = .ok (.getfield 270, 3) := by decide +kernel
theorem dX7_least_18 : decode cX7_least 18 = .ok (.lconst 0, 1) := by decide +kernel
theorem dX7_least_19 : decode cX7_least 19 = .ok (.lcmp, 1) := by decide +kernel
theorem dX7_least_20 : decode cX7_least 20 = .ok (.ifCond .ne 7, 3) := by decide +kernel
theorem dX7_least_23 : decode cX7_least 23 = .ok (.ldc2_w 208, 3) := by decide +kernel
theorem dX7_least_26 : decode cX7_least 26 = .ok (.lreturn, 1) := by decide +kernel
theorem dX7_least_27 : decode cX7_least 27 = .ok (.aload_n 0, 1) := by decide +kernel
theorem dX7_least_28 : decode cX7_least 28 = .ok (.getfield 51, 3) := by decide +kernel
theorem dX7_least_31 : decode cX7_least 31 = .ok (.getfield 273, 3) := by decide +kernel
theorem dX7_least_34 : decode cX7_least 34 = .ok (.aload_n 0, 1) := by decide +kernel
theorem dX7_least_35 : decode cX7_least 35 = .ok (.getfield 51, 3) := by decide +kernel
theorem dX7_least_38 : decode cX7_least 38 = .ok (.getfield 270, 3) := by decide +kernel
theorem dX7_least_41 : decode cX7_least 41 = .ok (.iload_n 1, 1) := by decide +kernel
theorem dX7_least_42 : decode cX7_least 42 = .ok (.invokestatic 161, 3) := by decide +kernel
theorem dX7_least_45 : decode cX7_least 45 = .ok (.lreturn, 1) := by decide +kernel
theorem dX7_sheet_0 : decode cX7_sheet 0 = .ok (.iload_n 1, 1) := by decide +kernel
theorem dX7_sheet_1 : decode cX7_sheet 1 = .ok (.invokestatic 223, 3) := by decide +kernel
theorem dX7_sheet_4 : decode cX7_sheet 4 = .ok (.ifCond .eq 13, 3) := by decide +kernel
theorem dX7_sheet_7 : decode cX7_sheet 7 = .ok (.iload_n 2, 1) := by decide +kernel
theorem dX7_sheet_8 : decode cX7_sheet 8 = .ok (.iconst (-1), 1) := by decide +kernel
theorem dX7_sheet_9 : decode cX7_sheet 9 = .ok (.if_icmp .lt 8, 3) := by decide +kernel
theorem dX7_sheet_12 : decode cX7_sheet 12 = .ok (.iload_n 2, 1) := by decide +kernel
theorem dX7_sheet_13 : decode cX7_sheet 13 = .ok (.iconst 1, 1) := by decide +kernel
theorem dX7_sheet_14 : decode cX7_sheet 14 = .ok (.if_icmp .le 6, 3) := by decide +kernel
theorem dX7_sheet_17 : decode cX7_sheet 17 = .ok (.bipush (-2), 2) := by decide +kernel
theorem dX7_sheet_19 : decode cX7_sheet 19 = .ok (.ireturn, 1) := by decide +kernel
theorem dX7_sheet_20 : decode cX7_sheet 20 = .ok (.iload_n 2, 1) := by decide +kernel
theorem dX7_sheet_21 : decode cX7_sheet 21 = .ok (.iconst (-1), 1) := by decide +kernel
theorem dX7_sheet_22 : decode cX7_sheet 22 = .ok (.if_icmp .ne 7, 3) := by decide +kernel
theorem dX7_sheet_25 : decode cX7_sheet 25 = .ok (.iconst 0, 1) := by decide +kernel
theorem dX7_sheet_26 : decode cX7_sheet 26 = .ok (.goto 4, 3) := by decide +kernel
theorem dX7_sheet_29 : decode cX7_sheet 29 = .ok (.iload_n 3, 1) := by decide +kernel
theorem dX7_sheet_30 : decode cX7_sheet 30 = .ok (.istore 4, 2) := by decide +kernel
theorem dX7_sheet_32 : decode cX7_sheet 32 = .ok (.iload 4, 2) := by decide +kernel
theorem dX7_sheet_34 : decode cX7_sheet 34 = .ok (.bipush 12, 2) := by decide +kernel
theorem dX7_sheet_36 : decode cX7_sheet 36 = .ok (.if_icmp .le 6, 3) := by decide +kernel
theorem dX7_sheet_39 : decode cX7_sheet 39 = .ok (.bipush (-2), 2) := by decide +kernel
theorem dX7_sheet_41 : decode cX7_sheet 41 = .ok (.ireturn, 1) := by decide +kernel
theorem dX7_sheet_42 : decode cX7_sheet 42 = .ok (.iload 4, 2) := by decide +kernel
theorem dX7_sheet_44 : decode cX7_sheet 44 = .ok (.ifCond .ge 6, 3) := by decide +kernel
theorem dX7_sheet_47 : decode cX7_sheet 47 = .ok (.bipush (-14), 2) := by decide +kernel
theorem dX7_sheet_49 : decode cX7_sheet 49 = .ok (.ireturn, 1) := by decide +kernel
theorem dX7_sheet_50 : decode cX7_sheet 50 = .ok (.aload_n 0, 1) := by decide +kernel
theorem dX7_sheet_51 : decode cX7_sheet 51 = .ok (.getfield 37, 3) := by decide +kernel
theorem dX7_sheet_54 : decode cX7_sheet 54 = .ok (.iload_n 1, 1) := by decide +kernel
theorem dX7_sheet_55 : decode cX7_sheet 55 = .ok (.iload_n 2, 1) := by decide +kernel
theorem dX7_sheet_56 : decode cX7_sheet 56 = .ok (.iload 4, 2) := by decide +kernel
theorem dX7_sheet_58 : decode cX7_sheet 58 = .ok (.invokevirtual 276, 3) := by decide +kernel
theorem dX7_sheet_61 : decode cX7_sheet 61 = .ok (.iconst 1, 1) := by decide +kernel
theorem dX7_sheet_62 : decode cX7_sheet 62 = .ok (.ireturn, 1) := by decide +kernel
theorem dX7_cell_0 : decode cX7_cell 0 = .ok (.aload_n 0, 1) := by decide +kernel
theorem dX7_cell_1 : decode cX7_cell 1 = .ok (.iload_n 1, 1) := by decide +kernel
theorem dX7_cell_2 : decode cX7_cell 2 = .ok (.iload_n 2, 1) := by decide +kernel
theorem dX7_cell_3 : decode cX7_cell 3 = .ok (.invokevirtual 278, 3) := by decide +kernel
theorem dX7_cell_6 : decode cX7_cell 6 = .ok (.istore 5, 2) := by decide +kernel
theorem dX7_cell_8 : decode cX7_cell 8 = .ok (.iload 5, 2) := by decide +kernel
theorem dX7_cell_10 : decode cX7_cell 10 = .ok (.ifCond .ge 6, 3) := by decide +kernel
theorem dX7_cell_13 : decode cX7_cell 13 = .ok (.iload 5, 2) := by decide +kernel
theorem dX7_cell_15 : decode cX7_cell 15 = .ok (.ireturn, 1) := by decide +kernel
theorem dX7_cell_16 : decode cX7_cell 16 = .ok (.aload_n 0, 1) := by decide +kernel
theorem dX7_cell_17 : decode cX7_cell 17 = .ok (.getfield 37, 3) := by decide +kernel
theorem dX7_cell_20 : decode cX7_cell 20 = .ok (.getfield 233, 3) := by decide +kernel
theorem dX7_cell_23 : decode cX7_cell 23 = .ok (.iload_n 1, 1) := by decide +kernel
theorem dX7_cell_24 : decode cX7_cell 24 = .ok (.iaload, 1) := by decide +kernel
theorem dX7_cell_25 : decode cX7_cell 25 = .ok (.ifCond .ne 14, 3) := by decide +kernel
theorem dX7_cell_28 : decode cX7_cell 28 = .ok (.lload_n 3, 1) := by decide +kernel
theorem dX7_cell_29 : decode cX7_cell 29 = .ok (.lload_n 3, 1) := by decide +kernel
theorem dX7_cell_30 : decode cX7_cell 30 = .ok (.l2i, 1) := by decide +kernel
theorem dX7_cell_31 : decode cX7_cell 31 = .ok (.i2l, 1) := by decide +kernel
theorem dX7_cell_32 : decode cX7_cell 32 = .ok (.lcmp, 1) := by decide +kernel
theorem dX7_cell_33 : decode cX7_cell 33 = .ok (.ifCond .eq 6, 3) := by decide +kernel
theorem dX7_cell_36 : decode cX7_cell 36 = .ok (.bipush (-5), 2) := by decide +kernel
theorem dX7_cell_38 : decode cX7_cell 38 = .ok (.ireturn, 1) := by decide +kernel
theorem dX7_cell_39 : decode cX7_cell 39 = .ok (.aload_n 0, 1) := by decide +kernel
theorem dX7_cell_40 : decode cX7_cell 40 = .ok (.getfield 37, 3) := by decide +kernel
theorem dX7_cell_43 : decode cX7_cell 43 = .ok (.iload_n 1, 1) := by decide +kernel
theorem dX7_cell_44 : decode cX7_cell 44 = .ok (.iload_n 2, 1) := by decide +kernel
theorem dX7_cell_45 : decode cX7_cell 45 = .ok (.lload_n 3, 1) := by decide +kernel
theorem dX7_cell_46 : decode cX7_cell 46 = .ok (.invokevirtual 281, 3) := by decide +kernel
theorem dX7_cell_49 : decode cX7_cell 49 = .ok (.iconst 1, 1) := by decide +kernel
theorem dX7_cell_50 : decode cX7_cell 50 = .ok (.ireturn, 1) := by decide +kernel
theorem dX7_read_0 : decode cX7_read 0 = .ok (.aload_n 0, 1) := by decide +kernel
theorem dX7_read_1 : decode cX7_read 1 = .ok (.iload_n 1, 1) := by decide +kernel
theorem dX7_read_2 : decode cX7_read 2 = .ok (.iload_n 2, 1) := by decide +kernel
theorem dX7_read_3 : decode cX7_read 3 = .ok (.invokevirtual 278, 3) := by decide +kernel
theorem dX7_read_6 : decode cX7_read 6 = .ok (.istore_n 3, 1) := by decide +kernel
theorem dX7_read_7 : decode cX7_read 7 = .ok (.iload_n 3, 1) := by decide +kernel
theorem dX7_read_8 : decode cX7_read 8 = .ok (.ifCond .ge 12, 3) := by decide +kernel
theorem dX7_read_11 : decode cX7_read 11 = .ok (.ldc2_w 145, 3) := by decide +kernel
theorem dX7_read_14 : decode cX7_read 14 = .ok (.iload_n 3, 1) := by decide +kernel
theorem dX7_read_15 : decode cX7_read 15 = .ok (.i2l, 1) := by decide +kernel
theorem dX7_read_16 : decode cX7_read 16 = .ok (.ladd, 1) := by decide +kernel
theorem dX7_read_17 : decode cX7_read 17 = .ok (.goto 12, 3) := by decide +kernel
theorem dX7_read_20 : decode cX7_read 20 = .ok (.aload_n 0, 1) := by decide +kernel
theorem dX7_read_21 : decode cX7_read 21 = .ok (.getfield 37, 3) := by decide +kernel
theorem dX7_read_24 : decode cX7_read 24 = .ok (.iload_n 1, 1) := by decide +kernel
theorem dX7_read_25 : decode cX7_read 25 = .ok (.iload_n 2, 1) := by decide +kernel
theorem dX7_read_26 : decode cX7_read 26 = .ok (.invokevirtual 285, 3) := by decide +kernel
theorem dX7_read_29 : decode cX7_read 29 = .ok (.lreturn, 1) := by decide +kernel
theorem dX7_copy_0 : decode cX7_copy 0 = .ok (.iload_n 1, 1) := by decide +kernel
theorem dX7_copy_1 : decode cX7_copy 1 = .ok (.invokestatic 223, 3) := by decide +kernel
theorem dX7_copy_4 : decode cX7_copy 4 = .ok (.ifCond .eq 10, 3) := by decide +kernel
theorem dX7_copy_7 : decode cX7_copy 7 = .ok (.iload_n 3, 1) := by decide +kernel
theorem dX7_copy_8 : decode cX7_copy 8 = .ok (.invokestatic 223, 3) := by decide +kernel
theorem dX7_copy_11 : decode cX7_copy 11 = .ok (.ifCond .ne 6, 3) := by decide +kernel
theorem dX7_copy_14 : decode cX7_copy 14 = .ok (.bipush (-2), 2) := by decide +kernel
theorem dX7_copy_16 : decode cX7_copy 16 = .ok (.ireturn, 1) := by decide +kernel
theorem dX7_copy_17 : decode cX7_copy 17 = .ok (.aload_n 0, 1) := by decide +kernel
theorem dX7_copy_18 : decode cX7_copy 18 = .ok (.getfield 37, 3) := by decide +kernel
theorem dX7_copy_21 : decode cX7_copy 21 = .ok (.getfield 233, 3) := by decide +kernel
theorem dX7_copy_24 : decode cX7_copy 24 = .ok (.iload_n 1, 1) := by decide +kernel
theorem dX7_copy_25 : decode cX7_copy 25 = .ok (.iaload, 1) := by decide +kernel
theorem dX7_copy_26 : decode cX7_copy 26 = .ok (.iconst (-1), 1) := by decide +kernel
theorem dX7_copy_27 : decode cX7_copy 27 = .ok (.if_icmp .eq 16, 3) := by decide +kernel
theorem dX7_copy_30 : decode cX7_copy 30 = .ok (.aload_n 0, 1) := by decide +kernel
theorem dX7_copy_31 : decode cX7_copy 31 = .ok (.getfield 37, 3) := by decide +kernel
theorem dX7_copy_34 : decode cX7_copy 34 = .ok (.getfield 233, 3) := by decide +kernel
theorem dX7_copy_37 : decode cX7_copy 37 = .ok (.iload_n 3, 1) := by decide +kernel
theorem dX7_copy_38 : decode cX7_copy 38 = .ok (.iaload, 1) := by decide +kernel
theorem dX7_copy_39 : decode cX7_copy 39 = .ok (.iconst (-1), 1) := by decide +kernel
theorem dX7_copy_40 : decode cX7_copy 40 = .ok (.if_icmp .ne 6, 3) := by decide +kernel
theorem dX7_copy_43 : decode cX7_copy 43 = .ok (.bipush (-11), 2) := by decide +kernel
theorem dX7_copy_45 : decode cX7_copy 45 = .ok (.ireturn, 1) := by decide +kernel
theorem dX7_copy_46 : decode cX7_copy 46 = .ok (.aload_n 0, 1) := by decide +kernel
theorem dX7_copy_47 : decode cX7_copy 47 = .ok (.getfield 37, 3) := by decide +kernel
theorem dX7_copy_50 : decode cX7_copy 50 = .ok (.getfield 233, 3) := by decide +kernel
theorem dX7_copy_53 : decode cX7_copy 53 = .ok (.iload_n 1, 1) := by decide +kernel
theorem dX7_copy_54 : decode cX7_copy 54 = .ok (.iaload, 1) := by decide +kernel
theorem dX7_copy_55 : decode cX7_copy 55 = .ok (.aload_n 0, 1) := by decide +kernel
theorem dX7_copy_56 : decode cX7_copy 56 = .ok (.getfield 37, 3) := by decide +kernel
theorem dX7_copy_59 : decode cX7_copy 59 = .ok (.getfield 233, 3) := by decide +kernel
theorem dX7_copy_62 : decode cX7_copy 62 = .ok (.iload_n 3, 1) := by decide +kernel
theorem dX7_copy_63 : decode cX7_copy 63 = .ok (.iaload, 1) := by decide +kernel
theorem dX7_copy_64 : decode cX7_copy 64 = .ok (.if_icmp .eq 6, 3) := by decide +kernel
theorem dX7_copy_67 : decode cX7_copy 67 = .ok (.bipush (-13), 2) := by decide +kernel
theorem dX7_copy_69 : decode cX7_copy 69 = .ok (.ireturn, 1) := by decide +kernel
theorem dX7_copy_70 : decode cX7_copy 70 = .ok (.aload_n 0, 1) := by decide +kernel
theorem dX7_copy_71 : decode cX7_copy 71 = .ok (.getfield 37, 3) := by decide +kernel
theorem dX7_copy_74 : decode cX7_copy 74 = .ok (.iload_n 1, 1) := by decide +kernel
theorem dX7_copy_75 : decode cX7_copy 75 = .ok (.iload_n 2, 1) := by decide +kernel
theorem dX7_copy_76 : decode cX7_copy 76 = .ok (.iload 5, 2) := by decide +kernel
theorem dX7_copy_78 : decode cX7_copy 78 = .ok (.invokevirtual 289, 3) := by decide +kernel
theorem dX7_copy_81 : decode cX7_copy 81 = .ok (.ifCond .eq 18, 3) := by decide +kernel
theorem dX7_copy_84 : decode cX7_copy 84 = .ok (.aload_n 0, 1) := by decide +kernel
theorem dX7_copy_85 : decode cX7_copy 85 = .ok (.getfield 37, 3) := by decide +kernel
theorem dX7_copy_88 : decode cX7_copy 88 = .ok (.iload_n 3, 1) := by decide +kernel
theorem dX7_copy_89 : decode cX7_copy 89 = .ok (.iload 4, 2) := by decide +kernel
theorem dX7_copy_91 : decode cX7_copy 91 = .ok (.iload 5, 2) := by decide +kernel
theorem dX7_copy_93 : decode cX7_copy 93 = .ok (.invokevirtual 289, 3) := by decide +kernel
theorem dX7_copy_96 : decode cX7_copy 96 = .ok (.ifCond .ne 6, 3) := by decide +kernel
theorem dX7_copy_99 : decode cX7_copy 99 = .ok (.bipush (-12), 2) := by decide +kernel
theorem dX7_copy_101 : decode cX7_copy 101 = .ok (.ireturn, 1) := by decide +kernel
theorem dX7_copy_102 : decode cX7_copy 102 = .ok (.aload_n 0, 1) := by decide +kernel
theorem dX7_copy_103 : decode cX7_copy 103 = .ok (.getfield 37, 3) := by decide +kernel
theorem dX7_copy_106 : decode cX7_copy 106 = .ok (.iload_n 1, 1) := by decide +kernel
theorem dX7_copy_107 : decode cX7_copy 107 = .ok (.iload_n 2, 1) := by decide +kernel
theorem dX7_copy_108 : decode cX7_copy 108 = .ok (.iload_n 3, 1) := by decide +kernel
theorem dX7_copy_109 : decode cX7_copy 109 = .ok (.iload 4, 2) := by decide +kernel
theorem dX7_copy_111 : decode cX7_copy 111 = .ok (.iload 5, 2) := by decide +kernel
theorem dX7_copy_113 : decode cX7_copy 113 = .ok (.invokevirtual 293, 3) := by decide +kernel
theorem dX7_copy_116 : decode cX7_copy 116 = .ok (.iload 5, 2) := by decide +kernel
theorem dX7_copy_118 : decode cX7_copy 118 = .ok (.ireturn, 1) := by decide +kernel
theorem dX7_image_0 : decode cX7_image 0 = .ok (.aload_n 0, 1) := by decide +kernel
theorem dX7_image_1 : decode cX7_image 1 = .ok (.getfield 16, 3) := by decide +kernel
theorem dX7_image_4 : decode cX7_image 4 = .ok (.aload_n 0, 1) := by decide +kernel
theorem dX7_image_5 : decode cX7_image 5 = .ok (.getfield 10, 3) := by decide +kernel
theorem dX7_image_8 : decode cX7_image 8 = .ok (.invokevirtual 297, 3) := by decide +kernel
theorem dX7_image_11 : decode cX7_image 11 = .ok (.aload_n 0, 1) := by decide +kernel
theorem dX7_image_12 : decode cX7_image 12 = .ok (.iconst 1, 1) := by decide +kernel
theorem dX7_image_13 : decode cX7_image 13 = .ok (.putfield 300, 3) := by decide +kernel
theorem dX7_image_16 : decode cX7_image 16 = .ok (.aload_n 0, 1) := by decide +kernel
theorem dX7_image_17 : decode cX7_image 17 = .ok (.getfield 16, 3) := by decide +kernel
theorem dX7_image_20 : decode cX7_image 20 = .ok (.getfield 93, 3) := by decide +kernel
theorem dX7_image_23 : decode cX7_image 23 = .ok (.ireturn, 1) := by decide +kernel
theorem dX7_back_0 : decode cX7_back 0 = .ok (.aload_n 0, 1) := by decide +kernel
theorem dX7_back_1 : decode cX7_back 1 = .ok (.getfield 300, 3) := by decide +kernel
theorem dX7_back_4 : decode cX7_back 4 = .ok (.ifCond .ne 6, 3) := by decide +kernel
theorem dX7_back_7 : decode cX7_back 7 = .ok (.bipush (-3), 2) := by decide +kernel
theorem dX7_back_9 : decode cX7_back 9 = .ok (.ireturn, 1) := by decide +kernel
theorem dX7_back_10 : decode cX7_back 10 = .ok (.aload_n 0, 1) := by decide +kernel
theorem dX7_back_11 : decode cX7_back 11 = .ok (.getfield 10, 3) := by decide +kernel
theorem dX7_back_14 : decode cX7_back 14 = .ok (.aload_n 0, 1) := by decide +kernel
theorem dX7_back_15 : decode cX7_back 15 = .ok (.getfield 16, 3) := by decide +kernel
theorem dX7_back_18 : decode cX7_back 18 = .ok (.invokevirtual 297, 3) := by decide +kernel
theorem dX7_back_21 : decode cX7_back 21 = .ok (.aload_n 0, 1) := by decide +kernel
theorem dX7_back_22 : decode cX7_back 22 = .ok (.getfield 10, 3) := by decide +kernel
theorem dX7_back_25 : decode cX7_back 25 = .ok (.getfield 93, 3) := by decide +kernel
theorem dX7_back_28 : decode cX7_back 28 = .ok (.ireturn, 1) := by decide +kernel
theorem dX7_count_0 : decode cX7_count 0 = .ok (.iload_n 1, 1) := by decide +kernel
theorem dX7_count_1 : decode cX7_count 1 = .ok (.tableswitch 63 0 3 #[31, 39, 47, 55], 31) := by decide +kernel
theorem dX7_count_32 : decode cX7_count 32 = .ok (.aload_n 0, 1) := by decide +kernel
theorem dX7_count_33 : decode cX7_count 33 = .ok (.getfield 10, 3) := by decide +kernel
theorem dX7_count_36 : decode cX7_count 36 = .ok (.getfield 59, 3) := by decide +kernel
theorem dX7_count_39 : decode cX7_count 39 = .ok (.ireturn, 1) := by decide +kernel
theorem dX7_count_40 : decode cX7_count 40 = .ok (.aload_n 0, 1) := by decide +kernel
theorem dX7_count_41 : decode cX7_count 41 = .ok (.getfield 10, 3) := by decide +kernel
theorem dX7_count_44 : decode cX7_count 44 = .ok (.getfield 93, 3) := by decide +kernel
theorem dX7_count_47 : decode cX7_count 47 = .ok (.ireturn, 1) := by decide +kernel
theorem dX7_count_48 : decode cX7_count 48 = .ok (.aload_n 0, 1) := by decide +kernel
theorem dX7_count_49 : decode cX7_count 49 = .ok (.getfield 10, 3) := by decide +kernel
theorem dX7_count_52 : decode cX7_count 52 = .ok (.getfield 87, 3) := by decide +kernel
theorem dX7_count_55 : decode cX7_count 55 = .ok (.ireturn, 1) := by decide +kernel
theorem dX7_count_56 : decode cX7_count 56 = .ok (.aload_n 0, 1) := by decide +kernel
theorem dX7_count_57 : decode cX7_count 57 = .ok (.getfield 10, 3) := by decide +kernel
theorem dX7_count_60 : decode cX7_count 60 = .ok (.invokevirtual 304, 3) := by decide +kernel
theorem dX7_count_63 : decode cX7_count 63 = .ok (.ireturn, 1) := by decide +kernel
theorem dX7_count_64 : decode cX7_count 64 = .ok (.bipush (-2), 2) := by decide +kernel
theorem dX7_count_66 : decode cX7_count 66 = .ok (.ireturn, 1) := by decide +kernel
theorem dX7_isVariable_0 : decode cX7_isVariable 0 = .ok (.iload_n 1, 1) := by decide +kernel
theorem dX7_isVariable_1 : decode cX7_isVariable 1 = .ok (.ifCond .lt 18, 3) := by decide +kernel
theorem dX7_isVariable_4 : decode cX7_isVariable 4 = .ok (.iload_n 1, 1) := by decide +kernel
theorem dX7_isVariable_5 : decode cX7_isVariable 5 = .ok (.aload_n 0, 1) := by decide +kernel
theorem dX7_isVariable_6 : decode cX7_isVariable 6 = .ok (.getfield 10, 3) := by decide +kernel
theorem dX7_isVariable_9 : decode cX7_isVariable 9 = .ok (.getfield 59, 3) := by decide +kernel
theorem dX7_isVariable_12 : decode cX7_isVariable 12 = .ok (.if_icmp .ge 7, 3) := by decide +kernel
theorem dX7_isVariable_15 : decode cX7_isVariable 15 = .ok (.iconst 1, 1) := by decide +kernel
theorem dX7_isVariable_16 : decode cX7_isVariable 16 = .ok (.goto 4, 3) := by decide +kernel
theorem dX7_isVariable_19 : decode cX7_isVariable 19 = .ok (.iconst 0, 1) := by decide +kernel
theorem dX7_isVariable_20 : decode cX7_isVariable 20 = .ok (.ireturn, 1) := by decide +kernel
theorem dX7_isLine_0 : decode cX7_isLine 0 = .ok (.iload_n 1, 1) := by decide +kernel
theorem dX7_isLine_1 : decode cX7_isLine 1 = .ok (.ifCond .lt 18, 3) := by decide +kernel
theorem dX7_isLine_4 : decode cX7_isLine 4 = .ok (.iload_n 1, 1) := by decide +kernel
theorem dX7_isLine_5 : decode cX7_isLine 5 = .ok (.aload_n 0, 1) := by decide +kernel
theorem dX7_isLine_6 : decode cX7_isLine 6 = .ok (.getfield 10, 3) := by decide +kernel
theorem dX7_isLine_9 : decode cX7_isLine 9 = .ok (.getfield 93, 3) := by decide +kernel
theorem dX7_isLine_12 : decode cX7_isLine 12 = .ok (.if_icmp .ge 7, 3) := by decide +kernel
theorem dX7_isLine_15 : decode cX7_isLine 15 = .ok (.iconst 1, 1) := by decide +kernel
theorem dX7_isLine_16 : decode cX7_isLine 16 = .ok (.goto 4, 3) := by decide +kernel
theorem dX7_isLine_19 : decode cX7_isLine 19 = .ok (.iconst 0, 1) := by decide +kernel
theorem dX7_isLine_20 : decode cX7_isLine 20 = .ok (.ireturn, 1) := by decide +kernel
theorem dX7_isSet_0 : decode cX7_isSet 0 = .ok (.iload_n 1, 1) := by decide +kernel
theorem dX7_isSet_1 : decode cX7_isSet 1 = .ok (.aload_n 0, 1) := by decide +kernel
theorem dX7_isSet_2 : decode cX7_isSet 2 = .ok (.getfield 10, 3) := by decide +kernel
theorem dX7_isSet_5 : decode cX7_isSet 5 = .ok (.invokevirtual 202, 3) := by decide +kernel
theorem dX7_isSet_8 : decode cX7_isSet 8 = .ok (.iconst (-1), 1) := by decide +kernel
theorem dX7_isSet_9 : decode cX7_isSet 9 = .ok (.ixor, 1) := by decide +kernel
theorem dX7_isSet_10 : decode cX7_isSet 10 = .ok (.iand, 1) := by decide +kernel
theorem dX7_isSet_11 : decode cX7_isSet 11 = .ok (.ifCond .ne 7, 3) := by decide +kernel
theorem dX7_isSet_14 : decode cX7_isSet 14 = .ok (.iconst 1, 1) := by decide +kernel
theorem dX7_isSet_15 : decode cX7_isSet 15 = .ok (.goto 4, 3) := by decide +kernel
theorem dX7_isSet_18 : decode cX7_isSet 18 = .ok (.iconst 0, 1) := by decide +kernel
theorem dX7_isSet_19 : decode cX7_isSet 19 = .ok (.ireturn, 1) := by decide +kernel
theorem dX7_isOf_0 : decode cX7_isOf 0 = .ok (.iload_n 0, 1) := by decide +kernel
theorem dX7_isOf_1 : decode cX7_isOf 1 = .ok (.iload_n 1, 1) := by decide +kernel
theorem dX7_isOf_2 : decode cX7_isOf 2 = .ok (.ishr, 1) := by decide +kernel
theorem dX7_isOf_3 : decode cX7_isOf 3 = .ok (.iconst 1, 1) := by decide +kernel
theorem dX7_isOf_4 : decode cX7_isOf 4 = .ok (.iand, 1) := by decide +kernel
theorem dX7_isOf_5 : decode cX7_isOf 5 = .ok (.ifCond .eq 7, 3) := by decide +kernel
theorem dX7_isOf_8 : decode cX7_isOf 8 = .ok (.iconst 1, 1) := by decide +kernel
theorem dX7_isOf_9 : decode cX7_isOf 9 = .ok (.goto 4, 3) := by decide +kernel
theorem dX7_isOf_12 : decode cX7_isOf 12 = .ok (.iconst 0, 1) := by decide +kernel
theorem dX7_isOf_13 : decode cX7_isOf 13 = .ok (.ireturn, 1) := by decide +kernel
theorem dX7_isPart_0 : decode cX7_isPart 0 = .ok (.iload_n 0, 1) := by decide +kernel
theorem dX7_isPart_1 : decode cX7_isPart 1 = .ok (.ifCond .eq 8, 3) := by decide +kernel
theorem dX7_isPart_4 : decode cX7_isPart 4 = .ok (.iload_n 0, 1) := by decide +kernel
theorem dX7_isPart_5 : decode cX7_isPart 5 = .ok (.iconst 1, 1) := by decide +kernel
theorem dX7_isPart_6 : decode cX7_isPart 6 = .ok (.if_icmp .ne 7, 3) := by decide +kernel
theorem dX7_isPart_9 : decode cX7_isPart 9 = .ok (.iconst 1, 1) := by decide +kernel
theorem dX7_isPart_10 : decode cX7_isPart 10 = .ok (.goto 4, 3) := by decide +kernel
theorem dX7_isPart_13 : decode cX7_isPart 13 = .ok (.iconst 0, 1) := by decide +kernel
theorem dX7_isPart_14 : decode cX7_isPart 14 = .ok (.ireturn, 1) := by decide +kernel
theorem dX7_isSheet_0 : decode cX7_isSheet 0 = .ok (.iload_n 0, 1) := by decide +kernel
theorem dX7_isSheet_1 : decode cX7_isSheet 1 = .ok (.ifCond .lt 12, 3) := by decide +kernel
theorem dX7_isSheet_4 : decode cX7_isSheet 4 = .ok (.iload_n 0, 1) := by decide +kernel
theorem dX7_isSheet_5 : decode cX7_isSheet 5 = .ok (.iconst 4, 1) := by decide +kernel
theorem dX7_isSheet_6 : decode cX7_isSheet 6 = .ok (.if_icmp .ge 7, 3) := by decide +kernel
theorem dX7_isSheet_9 : decode cX7_isSheet 9 = .ok (.iconst 1, 1) := by decide +kernel
theorem dX7_isSheet_10 : decode cX7_isSheet 10 = .ok (.goto 4, 3) := by decide +kernel
theorem dX7_isSheet_13 : decode cX7_isSheet 13 = .ok (.iconst 0, 1) := by decide +kernel
theorem dX7_isSheet_14 : decode cX7_isSheet 14 = .ok (.ireturn, 1) := by decide +kernel
theorem dX7_isKind_0 : decode cX7_isKind 0 = .ok (.iload_n 0, 1) := by decide +kernel
theorem dX7_isKind_1 : decode cX7_isKind 1 = .ok (.ifCond .lt 12, 3) := by decide +kernel
theorem dX7_isKind_4 : decode cX7_isKind 4 = .ok (.iload_n 0, 1) := by decide +kernel
theorem dX7_isKind_5 : decode cX7_isKind 5 = .ok (.iconst 4, 1) := by decide +kernel
theorem dX7_isKind_6 : decode cX7_isKind 6 = .ok (.if_icmp .gt 7, 3) := by decide +kernel
theorem dX7_isKind_9 : decode cX7_isKind 9 = .ok (.iconst 1, 1) := by decide +kernel
theorem dX7_isKind_10 : decode cX7_isKind 10 = .ok (.goto 4, 3) := by decide +kernel
theorem dX7_isKind_13 : decode cX7_isKind 13 = .ok (.iconst 0, 1) := by decide +kernel
theorem dX7_isKind_14 : decode cX7_isKind 14 = .ok (.ireturn, 1) := by decide +kernel
theorem dX7_isWithin_0 : decode cX7_isWithin 0 = .ok (.iload_n 0, 1) := by decide +kernel
theorem dX7_isWithin_1 : decode cX7_isWithin 1 = .ok (.iload_n 1, 1) := by decide +kernel
theorem dX7_isWithin_2 : decode cX7_isWithin 2 = .ok (.ineg, 1) := by decide +kernel
theorem dX7_isWithin_3 : decode cX7_isWithin 3 = .ok (.if_icmp .lt 12, 3) := by decide +kernel
theorem dX7_isWithin_6 : decode cX7_isWithin 6 = .ok (.iload_n 0, 1) := by decide +kernel
theorem dX7_isWithin_7 : decode cX7_isWithin 7 = .ok (.iload_n 1, 1) := by decide +kernel
theorem dX7_isWithin_8 : decode cX7_isWithin 8 = .ok (.if_icmp .gt 7, 3) := by decide +kernel
theorem dX7_isWithin_11 : decode cX7_isWithin 11 = .ok (.iconst 1, 1) := by decide +kernel
theorem dX7_isWithin_12 : decode cX7_isWithin 12 = .ok (.goto 4, 3) := by decide +kernel
theorem dX7_isWithin_15 : decode cX7_isWithin 15 = .ok (.iconst 0, 1) := by decide +kernel
theorem dX7_isWithin_16 : decode cX7_isWithin 16 = .ok (.ireturn, 1) := by decide +kernel
theorem dX7_isBend_0 : decode cX7_isBend 0 = .ok (.iload_n 0, 1) := by decide +kernel
theorem dX7_isBend_1 : decode cX7_isBend 1 = .ok (.ifCond .eq 22, 3) := by decide +kernel
theorem dX7_isBend_4 : decode cX7_isBend 4 = .ok (.iload_n 1, 1) := by decide +kernel
theorem dX7_isBend_5 : decode cX7_isBend 5 = .ok (.iconst 1, 1) := by decide +kernel
theorem dX7_isBend_6 : decode cX7_isBend 6 = .ok (.if_icmp .lt 13, 3) := by decide +kernel
theorem dX7_isBend_9 : decode cX7_isBend 9 = .ok (.iload_n 1, 1) := by decide +kernel
theorem dX7_isBend_10 : decode cX7_isBend 10 = .ok (.bipush 20, 2) := by decide +kernel
theorem dX7_isBend_12 : decode cX7_isBend 12 = .ok (.if_icmp .gt 7, 3) := by decide +kernel
theorem dX7_isBend_15 : decode cX7_isBend 15 = .ok (.iconst 1, 1) := by decide +kernel
theorem dX7_isBend_16 : decode cX7_isBend 16 = .ok (.goto 13, 3) := by decide +kernel
theorem dX7_isBend_19 : decode cX7_isBend 19 = .ok (.iconst 0, 1) := by decide +kernel
theorem dX7_isBend_20 : decode cX7_isBend 20 = .ok (.goto 9, 3) := by decide +kernel
theorem dX7_isBend_23 : decode cX7_isBend 23 = .ok (.iload_n 1, 1) := by decide +kernel
theorem dX7_isBend_24 : decode cX7_isBend 24 = .ok (.bipush 9, 2) := by decide +kernel
theorem dX7_isBend_26 : decode cX7_isBend 26 = .ok (.invokestatic 79, 3) := by decide +kernel
theorem dX7_isBend_29 : decode cX7_isBend 29 = .ok (.ireturn, 1) := by decide +kernel
theorem dX7_isChange_0 : decode cX7_isChange 0 = .ok (.iload_n 0, 1) := by decide +kernel
theorem dX7_isChange_1 : decode cX7_isChange 1 = .ok (.tableswitch 46 0 2 #[27, 32, 39], 27) := by decide +kernel
theorem dX7_isChange_28 : decode cX7_isChange 28 = .ok (.iload_n 1, 1) := by decide +kernel
theorem dX7_isChange_29 : decode cX7_isChange 29 = .ok (.invokestatic 90, 3) := by decide +kernel
theorem dX7_isChange_32 : decode cX7_isChange 32 = .ok (.ireturn, 1) := by decide +kernel
theorem dX7_isChange_33 : decode cX7_isChange 33 = .ok (.iload_n 1, 1) := by decide +kernel
theorem dX7_isChange_34 : decode cX7_isChange 34 = .ok (.bipush 99, 2) := by decide +kernel
theorem dX7_isChange_36 : decode cX7_isChange 36 = .ok (.invokestatic 79, 3) := by decide +kernel
theorem dX7_isChange_39 : decode cX7_isChange 39 = .ok (.ireturn, 1) := by decide +kernel
theorem dX7_isChange_40 : decode cX7_isChange 40 = .ok (.iload_n 1, 1) := by decide +kernel
theorem dX7_isChange_41 : decode cX7_isChange 41 = .ok (.bipush 9, 2) := by decide +kernel
theorem dX7_isChange_43 : decode cX7_isChange 43 = .ok (.invokestatic 79, 3) := by decide +kernel
theorem dX7_isChange_46 : decode cX7_isChange 46 = .ok (.ireturn, 1) := by decide +kernel
theorem dX7_isChange_47 : decode cX7_isChange 47 = .ok (.iconst 0, 1) := by decide +kernel
theorem dX7_isChange_48 : decode cX7_isChange 48 = .ok (.ireturn, 1) := by decide +kernel
theorem dX7_refusedCell_0 : decode cX7_refusedCell 0 = .ok (.iload_n 1, 1) := by decide +kernel
theorem dX7_refusedCell_1 : decode cX7_refusedCell 1 = .ok (.invokestatic 223, 3) := by decide +kernel
theorem dX7_refusedCell_4 : decode cX7_refusedCell 4 = .ok (.ifCond .ne 6, 3) := by decide +kernel
theorem dX7_refusedCell_7 : decode cX7_refusedCell 7 = .ok (.bipush (-2), 2) := by decide +kernel
theorem dX7_refusedCell_9 : decode cX7_refusedCell 9 = .ok (.ireturn, 1) := by decide +kernel
theorem dX7_refusedCell_10 : decode cX7_refusedCell 10 = .ok (.aload_n 0, 1) := by decide +kernel
theorem dX7_refusedCell_11 : decode cX7_refusedCell 11 = .ok (.getfield 37, 3) := by decide +kernel
theorem dX7_refusedCell_14 : decode cX7_refusedCell 14 = .ok (.getfield 233, 3) := by decide +kernel
theorem dX7_refusedCell_17 : decode cX7_refusedCell 17 = .ok (.iload_n 1, 1) := by decide +kernel
theorem dX7_refusedCell_18 : decode cX7_refusedCell 18 = .ok (.iaload, 1) := by decide +kernel
theorem dX7_refusedCell_19 : decode cX7_refusedCell 19 = .ok (.iconst (-1), 1) := by decide +kernel
theorem dX7_refusedCell_20 : decode cX7_refusedCell 20 = .ok (.if_icmp .ne 6, 3) := by decide +kernel
theorem dX7_refusedCell_23 : decode cX7_refusedCell 23 = .ok (.bipush (-11), 2) := by decide +kernel
theorem dX7_refusedCell_25 : decode cX7_refusedCell 25 = .ok (.ireturn, 1) := by decide +kernel
theorem dX7_refusedCell_26 : decode cX7_refusedCell 26 = .ok (.iload_n 2, 1) := by decide +kernel
theorem dX7_refusedCell_27 : decode cX7_refusedCell 27 = .ok (.ifCond .lt 16, 3) := by decide +kernel
theorem dX7_refusedCell_30 : decode cX7_refusedCell 30 = .ok (.iload_n 2, 1) := by decide +kernel
theorem dX7_refusedCell_31 : decode cX7_refusedCell 31 = .ok (.aload_n 0, 1) := by decide +kernel
theorem dX7_refusedCell_32 : decode cX7_refusedCell 32 = .ok (.getfield 37, 3) := by decide +kernel
theorem dX7_refusedCell_35 : decode cX7_refusedCell 35 = .ok (.getfield 236, 3) := by decide +kernel
theorem dX7_refusedCell_38 : decode cX7_refusedCell 38 = .ok (.iload_n 1, 1) := by decide +kernel
theorem dX7_refusedCell_39 : decode cX7_refusedCell 39 = .ok (.iaload, 1) := by decide +kernel
theorem dX7_refusedCell_40 : decode cX7_refusedCell 40 = .ok (.if_icmp .lt 8, 3) := by decide +kernel
theorem dX7_refusedCell_43 : decode cX7_refusedCell 43 = .ok (.bipush (-12), 2) := by decide +kernel
theorem dX7_refusedCell_45 : decode cX7_refusedCell 45 = .ok (.goto 4, 3) := by decide +kernel
theorem dX7_refusedCell_48 : decode cX7_refusedCell 48 = .ok (.iconst 0, 1) := by decide +kernel
theorem dX7_refusedCell_49 : decode cX7_refusedCell 49 = .ok (.ireturn, 1) := by decide +kernel
theorem dX7_find_0 : decode cX7_find 0 = .ok (.iload_n 1, 1) := by decide +kernel
theorem dX7_find_1 : decode cX7_find 1 = .ok (.ifCond .eq 6, 3) := by decide +kernel
theorem dX7_find_4 : decode cX7_find 4 = .ok (.bipush (-2), 2) := by decide +kernel
theorem dX7_find_6 : decode cX7_find 6 = .ok (.ireturn, 1) := by decide +kernel
theorem dX7_find_7 : decode cX7_find 7 = .ok (.aload_n 0, 1) := by decide +kernel
theorem dX7_find_8 : decode cX7_find 8 = .ok (.getfield 10, 3) := by decide +kernel
theorem dX7_find_11 : decode cX7_find 11 = .ok (.invokevirtual 131, 3) := by decide +kernel
theorem dX7_find_14 : decode cX7_find 14 = .ok (.ifCond .eq 21, 3) := by decide +kernel
theorem dX7_find_17 : decode cX7_find 17 = .ok (.aload_n 0, 1) := by decide +kernel
theorem dX7_find_18 : decode cX7_find 18 = .ok (.getfield 27, 3) := by decide +kernel
theorem dX7_find_21 : decode cX7_find 21 = .ok (.iload_n 2, 1) := by decide +kernel
theorem dX7_find_22 : decode cX7_find 22 = .ok (.aload_n 0, 1) := by decide +kernel
theorem dX7_find_23 : decode cX7_find 23 = .ok (.getfield 10, 3) := by decide +kernel
theorem dX7_find_26 : decode cX7_find 26 = .ok (.getfield 87, 3) := by decide +kernel
theorem dX7_find_29 : decode cX7_find 29 = .ok (.invokevirtual 307, 3) := by decide +kernel
theorem dX7_find_32 : decode cX7_find 32 = .ok (.goto 5, 3) := by decide +kernel
theorem dX7_find_35 : decode cX7_find 35 = .ok (.bipush (-3), 2) := by decide +kernel
theorem dX7_find_37 : decode cX7_find 37 = .ok (.ireturn, 1) := by decide +kernel
theorem dX7_findNear_0 : decode cX7_findNear 0 = .ok (.iload_n 1, 1) := by decide +kernel
theorem dX7_findNear_1 : decode cX7_findNear 1 = .ok (.ifCond .ne 31, 3) := by decide +kernel
theorem dX7_findNear_4 : decode cX7_findNear 4 = .ok (.iload_n 2, 1) := by decide +kernel
theorem dX7_findNear_5 : decode cX7_findNear 5 = .ok (.bipush 99, 2) := by decide +kernel
theorem dX7_findNear_7 : decode cX7_findNear 7 = .ok (.invokestatic 79, 3) := by decide +kernel
theorem dX7_findNear_10 : decode cX7_findNear 10 = .ok (.ifCond .eq 22, 3) := by decide +kernel
theorem dX7_findNear_13 : decode cX7_findNear 13 = .ok (.iload_n 3, 1) := by decide +kernel
theorem dX7_findNear_14 : decode cX7_findNear 14 = .ok (.bipush 99, 2) := by decide +kernel
theorem dX7_findNear_16 : decode cX7_findNear 16 = .ok (.invokestatic 79, 3) := by decide +kernel
theorem dX7_findNear_19 : decode cX7_findNear 19 = .ok (.ifCond .eq 13, 3) := by decide +kernel
theorem dX7_findNear_22 : decode cX7_findNear 22 = .ok (.iload 4, 2) := by decide +kernel
theorem dX7_findNear_24 : decode cX7_findNear 24 = .ok (.bipush 99, 2) := by decide +kernel
theorem dX7_findNear_26 : decode cX7_findNear 26 = .ok (.invokestatic 79, 3) := by decide +kernel
theorem dX7_findNear_29 : decode cX7_findNear 29 = .ok (.ifCond .ne 6, 3) := by decide +kernel
theorem dX7_findNear_32 : decode cX7_findNear 32 = .ok (.bipush (-2), 2) := by decide +kernel
theorem dX7_findNear_34 : decode cX7_findNear 34 = .ok (.ireturn, 1) := by decide +kernel
theorem dX7_findNear_35 : decode cX7_findNear 35 = .ok (.aload_n 0, 1) := by decide +kernel
theorem dX7_findNear_36 : decode cX7_findNear 36 = .ok (.getfield 19, 3) := by decide +kernel
theorem dX7_findNear_39 : decode cX7_findNear 39 = .ok (.aload_n 0, 1) := by decide +kernel
theorem dX7_findNear_40 : decode cX7_findNear 40 = .ok (.getfield 10, 3) := by decide +kernel
theorem dX7_findNear_43 : decode cX7_findNear 43 = .ok (.invokevirtual 297, 3) := by decide +kernel
theorem dX7_findNear_46 : decode cX7_findNear 46 = .ok (.aload_n 0, 1) := by decide +kernel
theorem dX7_findNear_47 : decode cX7_findNear 47 = .ok (.getfield 19, 3) := by decide +kernel
theorem dX7_findNear_50 : decode cX7_findNear 50 = .ok (.invokevirtual 309, 3) := by decide +kernel
theorem dX7_findNear_53 : decode cX7_findNear 53 = .ok (.aload_n 0, 1) := by decide +kernel
theorem dX7_findNear_54 : decode cX7_findNear 54 = .ok (.getfield 19, 3) := by decide +kernel
theorem dX7_findNear_57 : decode cX7_findNear 57 = .ok (.getfield 83, 3) := by decide +kernel
theorem dX7_findNear_60 : decode cX7_findNear 60 = .ok (.iconst 0, 1) := by decide +kernel
theorem dX7_findNear_61 : decode cX7_findNear 61 = .ok (.iload_n 2, 1) := by decide +kernel
theorem dX7_findNear_62 : decode cX7_findNear 62 = .ok (.ineg, 1) := by decide +kernel
theorem dX7_findNear_63 : decode cX7_findNear 63 = .ok (.iastore, 1) := by decide +kernel
theorem dX7_findNear_64 : decode cX7_findNear 64 = .ok (.aload_n 0, 1) := by decide +kernel
theorem dX7_findNear_65 : decode cX7_findNear 65 = .ok (.getfield 19, 3) := by decide +kernel
theorem dX7_findNear_68 : decode cX7_findNear 68 = .ok (.getfield 83, 3) := by decide +kernel
theorem dX7_findNear_71 : decode cX7_findNear 71 = .ok (.iconst 1, 1) := by decide +kernel
theorem dX7_findNear_72 : decode cX7_findNear 72 = .ok (.iload_n 3, 1) := by decide +kernel
theorem dX7_findNear_73 : decode cX7_findNear 73 = .ok (.ineg, 1) := by decide +kernel
theorem dX7_findNear_74 : decode cX7_findNear 74 = .ok (.iastore, 1) := by decide +kernel
theorem dX7_findNear_75 : decode cX7_findNear 75 = .ok (.aload_n 0, 1) := by decide +kernel
theorem dX7_findNear_76 : decode cX7_findNear 76 = .ok (.getfield 19, 3) := by decide +kernel
theorem dX7_findNear_79 : decode cX7_findNear 79 = .ok (.getfield 83, 3) := by decide +kernel
theorem dX7_findNear_82 : decode cX7_findNear 82 = .ok (.iconst 2, 1) := by decide +kernel
theorem dX7_findNear_83 : decode cX7_findNear 83 = .ok (.iload 4, 2) := by decide +kernel
theorem dX7_findNear_85 : decode cX7_findNear 85 = .ok (.ineg, 1) := by decide +kernel
theorem dX7_findNear_86 : decode cX7_findNear 86 = .ok (.iastore, 1) := by decide +kernel
theorem dX7_findNear_87 : decode cX7_findNear 87 = .ok (.aload_n 0, 1) := by decide +kernel
theorem dX7_findNear_88 : decode cX7_findNear 88 = .ok (.getfield 31, 3) := by decide +kernel
theorem dX7_findNear_91 : decode cX7_findNear 91 = .ok (.aload_n 0, 1) := by decide +kernel
theorem dX7_findNear_92 : decode cX7_findNear 92 = .ok (.getfield 19, 3) := by decide +kernel
theorem dX7_findNear_95 : decode cX7_findNear 95 = .ok (.invokevirtual 202, 3) := by decide +kernel
theorem dX7_findNear_98 : decode cX7_findNear 98 = .ok (.aload_n 0, 1) := by decide +kernel
theorem dX7_findNear_99 : decode cX7_findNear 99 = .ok (.getfield 19, 3) := by decide +kernel
theorem dX7_findNear_102 : decode cX7_findNear 102 = .ok (.getfield 87, 3) := by decide +kernel
theorem dX7_findNear_105 : decode cX7_findNear 105 = .ok (.invokevirtual 307, 3) := by decide +kernel
theorem dX7_findNear_108 : decode cX7_findNear 108 = .ok (.ireturn, 1) := by decide +kernel
end
section
theorem dX8_init_0 : decode cX8_init 0 = .ok (.aload_n 0, 1) := by decide +kernel
theorem dX8_init_1 : decode cX8_init 1 = .ok (.invokespecial 1, 3) := by decide +kernel
theorem dX8_init_4 : decode cX8_init 4 = .ok (.aload_n 0, 1) := by decide +kernel
theorem dX8_init_5 : decode cX8_init 5 = .ok (.iconst 2, 1) := by decide +kernel
theorem dX8_init_6 : decode cX8_init 6 = .ok (.putfield 7, 3) := by decide +kernel
theorem dX8_init_9 : decode cX8_init 9 = .ok (.aload_n 0, 1) := by decide +kernel
theorem dX8_init_10 : decode cX8_init 10 = .ok (.bipush 9, 2) := by decide +kernel
theorem dX8_init_12 : decode cX8_init 12 = .ok (.newarray .int, 2) := by decide +kernel
theorem dX8_init_14 : decode cX8_init 14 = .ok (.dup, 1) := by decide +kernel
theorem dX8_init_15 : decode cX8_init 15 = .ok (.iconst 0, 1) := by decide +kernel
theorem dX8_init_16 : decode cX8_init 16 = .ok (.iconst 1, 1) := by decide +kernel
theorem dX8_init_17 : decode cX8_init 17 = .ok (.iastore, 1) := by decide +kernel
theorem dX8_init_18 : decode cX8_init 18 = .ok (.dup, 1) := by decide +kernel
theorem dX8_init_19 : decode cX8_init 19 = .ok (.iconst 1, 1) := by decide +kernel
theorem dX8_init_20 : decode cX8_init 20 = .ok (.iconst 0, 1) := by decide +kernel
theorem dX8_init_21 : decode cX8_init 21 = .ok (.iastore, 1) := by decide +kernel
theorem dX8_init_22 : decode cX8_init 22 = .ok (.dup, 1) := by decide +kernel
theorem dX8_init_23 : decode cX8_init 23 = .ok (.iconst 2, 1) := by decide +kernel
theorem dX8_init_24 : decode cX8_init 24 = .ok (.iconst 0, 1) := by decide +kernel
theorem dX8_init_25 : decode cX8_init 25 = .ok (.iastore, 1) := by decide +kernel
theorem dX8_init_26 : decode cX8_init 26 = .ok (.dup, 1) := by decide +kernel
theorem dX8_init_27 : decode cX8_init 27 = .ok (.iconst 3, 1) := by decide +kernel
theorem dX8_init_28 : decode cX8_init 28 = .ok (.iconst 0, 1) := by decide +kernel
theorem dX8_init_29 : decode cX8_init 29 = .ok (.iastore, 1) := by decide +kernel
theorem dX8_init_30 : decode cX8_init 30 = .ok (.dup, 1) := by decide +kernel
theorem dX8_init_31 : decode cX8_init 31 = .ok (.iconst 4, 1) := by decide +kernel
theorem dX8_init_32 : decode cX8_init 32 = .ok (.iconst 1, 1) := by decide +kernel
theorem dX8_init_33 : decode cX8_init 33 = .ok (.iastore, 1) := by decide +kernel
theorem dX8_init_34 : decode cX8_init 34 = .ok (.dup, 1) := by decide +kernel
theorem dX8_init_35 : decode cX8_init 35 = .ok (.iconst 5, 1) := by decide +kernel
theorem dX8_init_36 : decode cX8_init 36 = .ok (.iconst 0, 1) := by decide +kernel
theorem dX8_init_37 : decode cX8_init 37 = .ok (.iastore, 1) := by decide +kernel
theorem dX8_init_38 : decode cX8_init 38 = .ok (.dup, 1) := by decide +kernel
theorem dX8_init_39 : decode cX8_init 39 = .ok (.bipush 6, 2) := by decide +kernel
theorem dX8_init_41 : decode cX8_init 41 = .ok (.iconst 0, 1) := by decide +kernel
theorem dX8_init_42 : decode cX8_init 42 = .ok (.iastore, 1) := by decide +kernel
theorem dX8_init_43 : decode cX8_init 43 = .ok (.dup, 1) := by decide +kernel
theorem dX8_init_44 : decode cX8_init 44 = .ok (.bipush 7, 2) := by decide +kernel
theorem dX8_init_46 : decode cX8_init 46 = .ok (.iconst 0, 1) := by decide +kernel
theorem dX8_init_47 : decode cX8_init 47 = .ok (.iastore, 1) := by decide +kernel
theorem dX8_init_48 : decode cX8_init 48 = .ok (.dup, 1) := by decide +kernel
theorem dX8_init_49 : decode cX8_init 49 = .ok (.bipush 8, 2) := by decide +kernel
theorem dX8_init_51 : decode cX8_init 51 = .ok (.iconst 1, 1) := by decide +kernel
theorem dX8_init_52 : decode cX8_init 52 = .ok (.iastore, 1) := by decide +kernel
theorem dX8_init_53 : decode cX8_init 53 = .ok (.putfield 13, 3) := by decide +kernel
theorem dX8_init_56 : decode cX8_init 56 = .ok (.aload_n 0, 1) := by decide +kernel
theorem dX8_init_57 : decode cX8_init 57 = .ok (.iconst 3, 1) := by decide +kernel
theorem dX8_init_58 : decode cX8_init 58 = .ok (.newarray .int, 2) := by decide +kernel
theorem dX8_init_60 : decode cX8_init 60 = .ok (.putfield 17, 3) := by decide +kernel
theorem dX8_init_63 : decode cX8_init 63 = .ok (.aload_n 0, 1) := by decide +kernel
theorem dX8_init_64 : decode cX8_init 64 = .ok (.bipush 36, 2) := by decide +kernel
theorem dX8_init_66 : decode cX8_init 66 = .ok (.newarray .int, 2) := by decide +kernel
theorem dX8_init_68 : decode cX8_init 68 = .ok (.putfield 20, 3) := by decide +kernel
theorem dX8_init_71 : decode cX8_init 71 = .ok (.aload_n 0, 1) := by decide +kernel
theorem dX8_init_72 : decode cX8_init 72 = .ok (.bipush 51, 2) := by decide +kernel
theorem dX8_init_74 : decode cX8_init 74 = .ok (.newarray .int, 2) := by decide +kernel
theorem dX8_init_76 : decode cX8_init 76 = .ok (.putfield 23, 3) := by decide +kernel
theorem dX8_init_79 : decode cX8_init 79 = .ok (.aload_n 0, 1) := by decide +kernel
theorem dX8_init_80 : decode cX8_init 80 = .ok (.bipush 8, 2) := by decide +kernel
theorem dX8_init_82 : decode cX8_init 82 = .ok (.newarray .int, 2) := by decide +kernel
theorem dX8_init_84 : decode cX8_init 84 = .ok (.putfield 26, 3) := by decide +kernel
theorem dX8_init_87 : decode cX8_init 87 = .ok (.aload_n 0, 1) := by decide +kernel
theorem dX8_init_88 : decode cX8_init 88 = .ok (.bipush 36, 2) := by decide +kernel
theorem dX8_init_90 : decode cX8_init 90 = .ok (.newarray .long, 2) := by decide +kernel
theorem dX8_init_92 : decode cX8_init 92 = .ok (.putfield 29, 3) := by decide +kernel
theorem dX8_init_95 : decode cX8_init 95 = .ok (.aload_n 0, 1) := by decide +kernel
theorem dX8_init_96 : decode cX8_init 96 = .ok (.bipush 64, 2) := by decide +kernel
theorem dX8_init_98 : decode cX8_init 98 = .ok (.newarray .long, 2) := by decide +kernel
theorem dX8_init_100 : decode cX8_init 100 = .ok (.putfield 33, 3) := by decide +kernel
theorem dX8_init_103 : decode cX8_init 103 = .ok (.aload_n 0, 1) := by decide +kernel
theorem dX8_init_104 : decode cX8_init 104 = .ok (.iconst 3, 1) := by decide +kernel
theorem dX8_init_105 : decode cX8_init 105 = .ok (.newarray .long, 2) := by decide +kernel
theorem dX8_init_107 : decode cX8_init 107 = .ok (.putfield 36, 3) := by decide +kernel
theorem dX8_init_110 : decode cX8_init 110 = .ok (.aload_n 0, 1) := by decide +kernel
theorem dX8_init_111 : decode cX8_init 111 = .ok (.bipush 6, 2) := by decide +kernel
theorem dX8_init_113 : decode cX8_init 113 = .ok (.newarray .long, 2) := by decide +kernel
theorem dX8_init_115 : decode cX8_init 115 = .ok (.putfield 39, 3) := by decide +kernel
theorem dX8_init_118 : decode cX8_init 118 = .ok (.aload_n 0, 1) := by decide +kernel
theorem dX8_init_119 : decode cX8_init 119 = .ok (.iconst 3, 1) := by decide +kernel
theorem dX8_init_120 : decode cX8_init 120 = .ok (.newarray .long, 2) := by decide +kernel
theorem dX8_init_122 : decode cX8_init 122 = .ok (.putfield 42, 3) := by decide +kernel
theorem dX8_init_125 : decode cX8_init 125 = .ok (.aload_n 0, 1) := by decide +kernel
theorem dX8_init_126 : decode cX8_init 126 = .ok (.bipush 6, 2) := by decide +kernel
theorem dX8_init_128 : decode cX8_init 128 = .ok (.newarray .long, 2) := by decide +kernel
theorem dX8_init_130 : decode cX8_init 130 = .ok (.putfield 45, 3) := by decide +kernel
theorem dX8_init_133 : decode cX8_init 133 = .ok (.aload_n 0, 1) := by decide +kernel
theorem dX8_init_134 : decode cX8_init 134 = .ok (.bipush 6, 2) := by decide +kernel
theorem dX8_init_136 : decode cX8_init 136 = .ok (.newarray .int, 2) := by decide +kernel
theorem dX8_init_138 : decode cX8_init 138 = .ok (.putfield 48, 3) := by decide +kernel
theorem dX8_init_141 : decode cX8_init 141 = .ok (.aload_n 0, 1) := by decide +kernel
theorem dX8_init_142 : decode cX8_init 142 = .ok (.bipush 6, 2) := by decide +kernel
theorem dX8_init_144 : decode cX8_init 144 = .ok (.newarray .long, 2) := by decide +kernel
theorem dX8_init_146 : decode cX8_init 146 = .ok (.putfield 51, 3) := by decide +kernel
theorem dX8_init_149 : decode cX8_init 149 = .ok (.aload_n 0, 1) := by decide +kernel
theorem dX8_init_150 : decode cX8_init 150 = .ok (.bipush 64, 2) := by decide +kernel
theorem dX8_init_152 : decode cX8_init 152 = .ok (.newarray .int, 2) := by decide +kernel
theorem dX8_init_154 : decode cX8_init 154 = .ok (.putfield 54, 3) := by decide +kernel
theorem dX8_init_157 : decode cX8_init 157 = .ok (.aload_n 0, 1) := by decide +kernel
theorem dX8_init_158 : decode cX8_init 158 = .ok (.bipush 12, 2) := by decide +kernel
theorem dX8_init_160 : decode cX8_init 160 = .ok (.newarray .int, 2) := by decide +kernel
theorem dX8_init_162 : decode cX8_init 162 = .ok (.putfield 57, 3) := by decide +kernel
theorem dX8_init_165 : decode cX8_init 165 = .ok (.aload_n 0, 1) := by decide +kernel
theorem dX8_init_166 : decode cX8_init 166 = .ok (.iconst 4, 1) := by decide +kernel
theorem dX8_init_167 : decode cX8_init 167 = .ok (.newarray .int, 2) := by decide +kernel
theorem dX8_init_169 : decode cX8_init 169 = .ok (.dup, 1) := by decide +kernel
theorem dX8_init_170 : decode cX8_init 170 = .ok (.iconst 0, 1) := by decide +kernel
theorem dX8_init_171 : decode cX8_init 171 = .ok (.iconst (-1), 1) := by decide +kernel
theorem dX8_init_172 : decode cX8_init 172 = .ok (.iastore, 1) := by decide +kernel
theorem dX8_init_173 : decode cX8_init 173 = .ok (.dup, 1) := by decide +kernel
theorem dX8_init_174 : decode cX8_init 174 = .ok (.iconst 1, 1) := by decide +kernel
theorem dX8_init_175 : decode cX8_init 175 = .ok (.iconst (-1), 1) := by decide +kernel
theorem dX8_init_176 : decode cX8_init 176 = .ok (.iastore, 1) := by decide +kernel
theorem dX8_init_177 : decode cX8_init 177 = .ok (.dup, 1) := by decide +kernel
theorem dX8_init_178 : decode cX8_init 178 = .ok (.iconst 2, 1) := by decide +kernel
theorem dX8_init_179 : decode cX8_init 179 = .ok (.iconst (-1), 1) := by decide +kernel
theorem dX8_init_180 : decode cX8_init 180 = .ok (.iastore, 1) := by decide +kernel
theorem dX8_init_181 : decode cX8_init 181 = .ok (.dup, 1) := by decide +kernel
theorem dX8_init_182 : decode cX8_init 182 = .ok (.iconst 3, 1) := by decide +kernel
theorem dX8_init_183 : decode cX8_init 183 = .ok (.iconst (-1), 1) := by decide +kernel
theorem dX8_init_184 : decode cX8_init 184 = .ok (.iastore, 1) := by decide +kernel
theorem dX8_init_185 : decode cX8_init 185 = .ok (.putfield 60, 3) := by decide +kernel
theorem dX8_init_188 : decode cX8_init 188 = .ok (.aload_n 0, 1) := by decide +kernel
theorem dX8_init_189 : decode cX8_init 189 = .ok (.iconst 4, 1) := by decide +kernel
theorem dX8_init_190 : decode cX8_init 190 = .ok (.newarray .int, 2) := by decide +kernel
theorem dX8_init_192 : decode cX8_init 192 = .ok (.putfield 63, 3) := by decide +kernel
theorem dX8_init_195 : decode cX8_init 195 = .ok (.aload_n 0, 1) := by decide +kernel
theorem dX8_init_196 : decode cX8_init 196 = .ok (.bipush 48, 2) := by decide +kernel
theorem dX8_init_198 : decode cX8_init 198 = .ok (.newarray .long, 2) := by decide +kernel
theorem dX8_init_200 : decode cX8_init 200 = .ok (.putfield 66, 3) := by decide +kernel
theorem dX8_init_203 : decode cX8_init 203 = .ok (.return_, 1) := by decide +kernel
theorem dX8_in_0 : decode cX8_in 0 = .ok (.lload_n 0, 1) := by decide +kernel
theorem dX8_in_1 : decode cX8_in 1 = .ok (.lload_n 2, 1) := by decide +kernel
theorem dX8_in_2 : decode cX8_in 2 = .ok (.lcmp, 1) := by decide +kernel
theorem dX8_in_3 : decode cX8_in 3 = .ok (.ifCond .lt 14, 3) := by decide +kernel
theorem dX8_in_6 : decode cX8_in 6 = .ok (.lload_n 0, 1) := by decide +kernel
theorem dX8_in_7 : decode cX8_in 7 = .ok (.lload 4, 2) := by decide +kernel
theorem dX8_in_9 : decode cX8_in 9 = .ok (.lcmp, 1) := by decide +kernel
theorem dX8_in_10 : decode cX8_in 10 = .ok (.ifCond .gt 7, 3) := by decide +kernel
theorem dX8_in_13 : decode cX8_in 13 = .ok (.iconst 1, 1) := by decide +kernel
theorem dX8_in_14 : decode cX8_in 14 = .ok (.goto 4, 3) := by decide +kernel
theorem dX8_in_17 : decode cX8_in 17 = .ok (.iconst 0, 1) := by decide +kernel
theorem dX8_in_18 : decode cX8_in 18 = .ok (.ireturn, 1) := by decide +kernel
theorem dX8_has_0 : decode cX8_has 0 = .ok (.iload_n 0, 1) := by decide +kernel
theorem dX8_has_1 : decode cX8_has 1 = .ok (.iload_n 1, 1) := by decide +kernel
theorem dX8_has_2 : decode cX8_has 2 = .ok (.ishr, 1) := by decide +kernel
theorem dX8_has_3 : decode cX8_has 3 = .ok (.iconst 1, 1) := by decide +kernel
theorem dX8_has_4 : decode cX8_has 4 = .ok (.iand, 1) := by decide +kernel
theorem dX8_has_5 : decode cX8_has 5 = .ok (.iconst 1, 1) := by decide +kernel
theorem dX8_has_6 : decode cX8_has 6 = .ok (.if_icmp .ne 7, 3) := by decide +kernel
theorem dX8_has_9 : decode cX8_has 9 = .ok (.iconst 1, 1) := by decide +kernel
theorem dX8_has_10 : decode cX8_has 10 = .ok (.goto 4, 3) := by decide +kernel
theorem dX8_has_13 : decode cX8_has 13 = .ok (.iconst 0, 1) := by decide +kernel
theorem dX8_has_14 : decode cX8_has 14 = .ok (.ireturn, 1) := by decide +kernel
theorem dX8_isPart_0 : decode cX8_isPart 0 = .ok (.iload_n 0, 1) := by decide +kernel
theorem dX8_isPart_1 : decode cX8_isPart 1 = .ok (.ifCond .eq 8, 3) := by decide +kernel
theorem dX8_isPart_4 : decode cX8_isPart 4 = .ok (.iload_n 0, 1) := by decide +kernel
theorem dX8_isPart_5 : decode cX8_isPart 5 = .ok (.iconst 1, 1) := by decide +kernel
theorem dX8_isPart_6 : decode cX8_isPart 6 = .ok (.if_icmp .ne 7, 3) := by decide +kernel
theorem dX8_isPart_9 : decode cX8_isPart 9 = .ok (.iconst 1, 1) := by decide +kernel
theorem dX8_isPart_10 : decode cX8_isPart 10 = .ok (.goto 4, 3) := by decide +kernel
theorem dX8_isPart_13 : decode cX8_isPart 13 = .ok (.iconst 0, 1) := by decide +kernel
theorem dX8_isPart_14 : decode cX8_isPart 14 = .ok (.ireturn, 1) := by decide +kernel
theorem dX8_refused_0 : decode cX8_refused 0 = .ok (.ldc2_w 69, 3) := by decide +kernel
theorem dX8_refused_3 : decode cX8_refused 3 = .ok (.iload_n 0, 1) := by decide +kernel
theorem dX8_refused_4 : decode cX8_refused 4 = .ok (.i2l, 1) := by decide +kernel
theorem dX8_refused_5 : decode cX8_refused 5 = .ok (.ladd, 1) := by decide +kernel
theorem dX8_refused_6 : decode cX8_refused 6 = .ok (.lreturn, 1) := by decide +kernel
theorem dX8_divisor_0 : decode cX8_divisor 0 = .ok (.lload_n 0, 1) := by decide +kernel
theorem dX8_divisor_1 : decode cX8_divisor 1 = .ok (.lconst 0, 1) := by decide +kernel
theorem dX8_divisor_2 : decode cX8_divisor 2 = .ok (.lcmp, 1) := by decide +kernel
theorem dX8_divisor_3 : decode cX8_divisor 3 = .ok (.ifCond .ge 8, 3) := by decide +kernel
theorem dX8_divisor_6 : decode cX8_divisor 6 = .ok (.lload_n 0, 1) := by decide +kernel
theorem dX8_divisor_7 : decode cX8_divisor 7 = .ok (.lneg, 1) := by decide +kernel
theorem dX8_divisor_8 : decode cX8_divisor 8 = .ok (.goto 4, 3) := by decide +kernel
theorem dX8_divisor_11 : decode cX8_divisor 11 = .ok (.lload_n 0, 1) := by decide +kernel
theorem dX8_divisor_12 : decode cX8_divisor 12 = .ok (.lstore 4, 2) := by decide +kernel
theorem dX8_divisor_14 : decode cX8_divisor 14 = .ok (.lload_n 2, 1) := by decide +kernel
theorem dX8_divisor_15 : decode cX8_divisor 15 = .ok (.lstore 6, 2) := by decide +kernel
theorem dX8_divisor_17 : decode cX8_divisor 17 = .ok (.lload 6, 2) := by decide +kernel
theorem dX8_divisor_19 : decode cX8_divisor 19 = .ok (.lconst 0, 1) := by decide +kernel
theorem dX8_divisor_20 : decode cX8_divisor 20 = .ok (.lcmp, 1) := by decide +kernel
theorem dX8_divisor_21 : decode cX8_divisor 21 = .ok (.ifCond .eq 21, 3) := by decide +kernel
theorem dX8_divisor_24 : decode cX8_divisor 24 = .ok (.lload 4, 2) := by decide +kernel
theorem dX8_divisor_26 : decode cX8_divisor 26 = .ok (.lload 6, 2) := by decide +kernel
theorem dX8_divisor_28 : decode cX8_divisor 28 = .ok (.lrem, 1) := by decide +kernel
theorem dX8_divisor_29 : decode cX8_divisor 29 = .ok (.lstore 8, 2) := by decide +kernel
theorem dX8_divisor_31 : decode cX8_divisor 31 = .ok (.lload 6, 2) := by decide +kernel
theorem dX8_divisor_33 : decode cX8_divisor 33 = .ok (.lstore 4, 2) := by decide +kernel
theorem dX8_divisor_35 : decode cX8_divisor 35 = .ok (.lload 8, 2) := by decide +kernel
theorem dX8_divisor_37 : decode cX8_divisor 37 = .ok (.lstore 6, 2) := by decide +kernel
theorem dX8_divisor_39 : decode cX8_divisor 39 = .ok (.goto (-22), 3) := by decide +kernel
theorem dX8_divisor_42 : decode cX8_divisor 42 = .ok (.lload 4, 2) := by decide +kernel
theorem dX8_divisor_44 : decode cX8_divisor 44 = .ok (.lreturn, 1) := by decide +kernel
theorem dX8_lowest_0 : decode cX8_lowest 0 = .ok (.lload_n 0, 1) := by decide +kernel
theorem dX8_lowest_1 : decode cX8_lowest 1 = .ok (.lload_n 2, 1) := by decide +kernel
theorem dX8_lowest_2 : decode cX8_lowest 2 = .ok (.invokestatic 71, 3) := by decide +kernel
theorem dX8_lowest_5 : decode cX8_lowest 5 = .ok (.lstore 5, 2) := by decide +kernel
theorem dX8_lowest_7 : decode cX8_lowest 7 = .ok (.iload 4, 2) := by decide +kernel
theorem dX8_lowest_9 : decode cX8_lowest 9 = .ok (.ifCond .ne 7, 3) := by decide +kernel
theorem dX8_lowest_12 : decode cX8_lowest 12 = .ok (.lload_n 0, 1) := by decide +kernel
theorem dX8_lowest_13 : decode cX8_lowest 13 = .ok (.goto 4, 3) := by decide +kernel
theorem dX8_lowest_16 : decode cX8_lowest 16 = .ok (.lload_n 2, 1) := by decide +kernel
theorem dX8_lowest_17 : decode cX8_lowest 17 = .ok (.lload 5, 2) := by decide +kernel
theorem dX8_lowest_19 : decode cX8_lowest 19 = .ok (.ldiv, 1) := by decide +kernel
theorem dX8_lowest_20 : decode cX8_lowest 20 = .ok (.lreturn, 1) := by decide +kernel
theorem dX8_isLess_0 : decode cX8_isLess 0 = .ok (.lload_n 0, 1) := by decide +kernel
theorem dX8_isLess_1 : decode cX8_isLess 1 = .ok (.lload_n 2, 1) := by decide +kernel
theorem dX8_isLess_2 : decode cX8_isLess 2 = .ok (.invokestatic 75, 3) := by decide +kernel
theorem dX8_isLess_5 : decode cX8_isLess 5 = .ok (.lstore 8, 2) := by decide +kernel
theorem dX8_isLess_7 : decode cX8_isLess 7 = .ok (.lload 4, 2) := by decide +kernel
theorem dX8_isLess_9 : decode cX8_isLess 9 = .ok (.lload 6, 2) := by decide +kernel
theorem dX8_isLess_11 : decode cX8_isLess 11 = .ok (.invokestatic 75, 3) := by decide +kernel
theorem dX8_isLess_14 : decode cX8_isLess 14 = .ok (.lstore 10, 2) := by decide +kernel
theorem dX8_isLess_16 : decode cX8_isLess 16 = .ok (.lload 8, 2) := by decide +kernel
theorem dX8_isLess_18 : decode cX8_isLess 18 = .ok (.lload 10, 2) := by decide +kernel
theorem dX8_isLess_20 : decode cX8_isLess 20 = .ok (.lcmp, 1) := by decide +kernel
theorem dX8_isLess_21 : decode cX8_isLess 21 = .ok (.ifCond .eq 17, 3) := by decide +kernel
theorem dX8_isLess_24 : decode cX8_isLess 24 = .ok (.lload 8, 2) := by decide +kernel
theorem dX8_isLess_26 : decode cX8_isLess 26 = .ok (.lload 10, 2) := by decide +kernel
theorem dX8_isLess_28 : decode cX8_isLess 28 = .ok (.lcmp, 1) := by decide +kernel
theorem dX8_isLess_29 : decode cX8_isLess 29 = .ok (.ifCond .ge 7, 3) := by decide +kernel
theorem dX8_isLess_32 : decode cX8_isLess 32 = .ok (.iconst 1, 1) := by decide +kernel
theorem dX8_isLess_33 : decode cX8_isLess 33 = .ok (.goto 4, 3) := by decide +kernel
theorem dX8_isLess_36 : decode cX8_isLess 36 = .ok (.iconst 0, 1) := by decide +kernel
theorem dX8_isLess_37 : decode cX8_isLess 37 = .ok (.ireturn, 1) := by decide +kernel
theorem dX8_isLess_38 : decode cX8_isLess 38 = .ok (.lload_n 0, 1) := by decide +kernel
theorem dX8_isLess_39 : decode cX8_isLess 39 = .ok (.lload 8, 2) := by decide +kernel
theorem dX8_isLess_41 : decode cX8_isLess 41 = .ok (.lload_n 2, 1) := by decide +kernel
theorem dX8_isLess_42 : decode cX8_isLess 42 = .ok (.lmul, 1) := by decide +kernel
theorem dX8_isLess_43 : decode cX8_isLess 43 = .ok (.lsub, 1) := by decide +kernel
theorem dX8_isLess_44 : decode cX8_isLess 44 = .ok (.lstore 12, 2) := by decide +kernel
theorem dX8_isLess_46 : decode cX8_isLess 46 = .ok (.lload 4, 2) := by decide +kernel
theorem dX8_isLess_48 : decode cX8_isLess 48 = .ok (.lload 10, 2) := by decide +kernel
theorem dX8_isLess_50 : decode cX8_isLess 50 = .ok (.lload 6, 2) := by decide +kernel
theorem dX8_isLess_52 : decode cX8_isLess 52 = .ok (.lmul, 1) := by decide +kernel
theorem dX8_isLess_53 : decode cX8_isLess 53 = .ok (.lsub, 1) := by decide +kernel
theorem dX8_isLess_54 : decode cX8_isLess 54 = .ok (.lstore 14, 2) := by decide +kernel
theorem dX8_isLess_56 : decode cX8_isLess 56 = .ok (.lload 12, 2) := by decide +kernel
theorem dX8_isLess_58 : decode cX8_isLess 58 = .ok (.lconst 0, 1) := by decide +kernel
theorem dX8_isLess_59 : decode cX8_isLess 59 = .ok (.lcmp, 1) := by decide +kernel
theorem dX8_isLess_60 : decode cX8_isLess 60 = .ok (.ifCond .eq 10, 3) := by decide +kernel
theorem dX8_isLess_63 : decode cX8_isLess 63 = .ok (.lload 14, 2) := by decide +kernel
theorem dX8_isLess_65 : decode cX8_isLess 65 = .ok (.lconst 0, 1) := by decide +kernel
theorem dX8_isLess_66 : decode cX8_isLess 66 = .ok (.lcmp, 1) := by decide +kernel
theorem dX8_isLess_67 : decode cX8_isLess 67 = .ok (.ifCond .ne 25, 3) := by decide +kernel
theorem dX8_isLess_70 : decode cX8_isLess 70 = .ok (.lload 12, 2) := by decide +kernel
theorem dX8_isLess_72 : decode cX8_isLess 72 = .ok (.lconst 0, 1) := by decide +kernel
theorem dX8_isLess_73 : decode cX8_isLess 73 = .ok (.lcmp, 1) := by decide +kernel
theorem dX8_isLess_74 : decode cX8_isLess 74 = .ok (.ifCond .ne 14, 3) := by decide +kernel
theorem dX8_isLess_77 : decode cX8_isLess 77 = .ok (.lload 14, 2) := by decide +kernel
theorem dX8_isLess_79 : decode cX8_isLess 79 = .ok (.lconst 0, 1) := by decide +kernel
theorem dX8_isLess_80 : decode cX8_isLess 80 = .ok (.lcmp, 1) := by decide +kernel
theorem dX8_isLess_81 : decode cX8_isLess 81 = .ok (.ifCond .eq 7, 3) := by decide +kernel
theorem dX8_isLess_84 : decode cX8_isLess 84 = .ok (.iconst 1, 1) := by decide +kernel
theorem dX8_isLess_85 : decode cX8_isLess 85 = .ok (.goto 17, 3) := by decide +kernel
theorem dX8_isLess_88 : decode cX8_isLess 88 = .ok (.iconst 0, 1) := by decide +kernel
theorem dX8_isLess_89 : decode cX8_isLess 89 = .ok (.goto 13, 3) := by decide +kernel
theorem dX8_isLess_92 : decode cX8_isLess 92 = .ok (.lload 6, 2) := by decide +kernel
theorem dX8_isLess_94 : decode cX8_isLess 94 = .ok (.lload 14, 2) := by decide +kernel
theorem dX8_isLess_96 : decode cX8_isLess 96 = .ok (.lload_n 2, 1) := by decide +kernel
theorem dX8_isLess_97 : decode cX8_isLess 97 = .ok (.lload 12, 2) := by decide +kernel
theorem dX8_isLess_99 : decode cX8_isLess 99 = .ok (.invokestatic 80, 3) := by decide +kernel
theorem dX8_isLess_102 : decode cX8_isLess 102 = .ok (.ireturn, 1) := by decide +kernel
theorem dX8_isVariable_0 : decode cX8_isVariable 0 = .ok (.iload_n 1, 1) := by decide +kernel
theorem dX8_isVariable_1 : decode cX8_isVariable 1 = .ok (.i2l, 1) := by decide +kernel
theorem dX8_isVariable_2 : decode cX8_isVariable 2 = .ok (.lconst 0, 1) := by decide +kernel
theorem dX8_isVariable_3 : decode cX8_isVariable 3 = .ok (.aload_n 0, 1) := by decide +kernel
theorem dX8_isVariable_4 : decode cX8_isVariable 4 = .ok (.getfield 7, 3) := by decide +kernel
theorem dX8_isVariable_7 : decode cX8_isVariable 7 = .ok (.iconst 1, 1) := by decide +kernel
theorem dX8_isVariable_8 : decode cX8_isVariable 8 = .ok (.isub, 1) := by decide +kernel
theorem dX8_isVariable_9 : decode cX8_isVariable 9 = .ok (.i2l, 1) := by decide +kernel
theorem dX8_isVariable_10 : decode cX8_isVariable 10 = .ok (.invokestatic 84, 3) := by decide +kernel
theorem dX8_isVariable_13 : decode cX8_isVariable 13 = .ok (.ireturn, 1) := by decide +kernel
theorem dX8_isLine_0 : decode cX8_isLine 0 = .ok (.iload_n 1, 1) := by decide +kernel
theorem dX8_isLine_1 : decode cX8_isLine 1 = .ok (.i2l, 1) := by decide +kernel
theorem dX8_isLine_2 : decode cX8_isLine 2 = .ok (.lconst 0, 1) := by decide +kernel
theorem dX8_isLine_3 : decode cX8_isLine 3 = .ok (.aload_n 0, 1) := by decide +kernel
theorem dX8_isLine_4 : decode cX8_isLine 4 = .ok (.getfield 88, 3) := by decide +kernel
theorem dX8_isLine_7 : decode cX8_isLine 7 = .ok (.iconst 1, 1) := by decide +kernel
theorem dX8_isLine_8 : decode cX8_isLine 8 = .ok (.isub, 1) := by decide +kernel
theorem dX8_isLine_9 : decode cX8_isLine 9 = .ok (.i2l, 1) := by decide +kernel
theorem dX8_isLine_10 : decode cX8_isLine 10 = .ok (.invokestatic 84, 3) := by decide +kernel
theorem dX8_isLine_13 : decode cX8_isLine 13 = .ok (.ireturn, 1) := by decide +kernel
theorem dX8_isSet_0 : decode cX8_isSet 0 = .ok (.iload_n 1, 1) := by decide +kernel
theorem dX8_isSet_1 : decode cX8_isSet 1 = .ok (.i2l, 1) := by decide +kernel
theorem dX8_isSet_2 : decode cX8_isSet 2 = .ok (.lconst 0, 1) := by decide +kernel
theorem dX8_isSet_3 : decode cX8_isSet 3 = .ok (.iconst 1, 1) := by decide +kernel
theorem dX8_isSet_4 : decode cX8_isSet 4 = .ok (.aload_n 0, 1) := by decide +kernel
theorem dX8_isSet_5 : decode cX8_isSet 5 = .ok (.getfield 88, 3) := by decide +kernel
theorem dX8_isSet_8 : decode cX8_isSet 8 = .ok (.ishl, 1) := by decide +kernel
theorem dX8_isSet_9 : decode cX8_isSet 9 = .ok (.iconst 1, 1) := by decide +kernel
theorem dX8_isSet_10 : decode cX8_isSet 10 = .ok (.isub, 1) := by decide +kernel
theorem dX8_isSet_11 : decode cX8_isSet 11 = .ok (.i2l, 1) := by decide +kernel
theorem dX8_isSet_12 : decode cX8_isSet 12 = .ok (.invokestatic 84, 3) := by decide +kernel
theorem dX8_isSet_15 : decode cX8_isSet 15 = .ok (.ireturn, 1) := by decide +kernel
theorem dX8_all_0 : decode cX8_all 0 = .ok (.iconst 1, 1) := by decide +kernel
theorem dX8_all_1 : decode cX8_all 1 = .ok (.aload_n 0, 1) := by decide +kernel
theorem dX8_all_2 : decode cX8_all 2 = .ok (.getfield 88, 3) := by decide +kernel
theorem dX8_all_5 : decode cX8_all 5 = .ok (.ishl, 1) := by decide +kernel
theorem dX8_all_6 : decode cX8_all 6 = .ok (.iconst 1, 1) := by decide +kernel
theorem dX8_all_7 : decode cX8_all 7 = .ok (.isub, 1) := by decide +kernel
theorem dX8_all_8 : decode cX8_all 8 = .ok (.ireturn, 1) := by decide +kernel
theorem dX8_size_0 : decode cX8_size 0 = .ok (.iload_n 1, 1) := by decide +kernel
theorem dX8_size_1 : decode cX8_size 1 = .ok (.i2l, 1) := by decide +kernel
theorem dX8_size_2 : decode cX8_size 2 = .ok (.lconst 1, 1) := by decide +kernel
theorem dX8_size_3 : decode cX8_size 3 = .ok (.ldc2_w 91, 3) := by decide +kernel
theorem dX8_size_6 : decode cX8_size 6 = .ok (.invokestatic 84, 3) := by decide +kernel
theorem dX8_size_9 : decode cX8_size 9 = .ok (.ifCond .ne 6, 3) := by decide +kernel
theorem dX8_size_12 : decode cX8_size 12 = .ok (.bipush (-2), 2) := by decide +kernel
theorem dX8_size_14 : decode cX8_size 14 = .ok (.ireturn, 1) := by decide +kernel
theorem dX8_size_15 : decode cX8_size 15 = .ok (.aload_n 0, 1) := by decide +kernel
theorem dX8_size_16 : decode cX8_size 16 = .ok (.getfield 7, 3) := by decide +kernel
theorem dX8_size_19 : decode cX8_size 19 = .ok (.istore_n 2, 1) := by decide +kernel
theorem dX8_size_20 : decode cX8_size 20 = .ok (.aload_n 0, 1) := by decide +kernel
theorem dX8_size_21 : decode cX8_size 21 = .ok (.iload_n 1, 1) := by decide +kernel
theorem dX8_size_22 : decode cX8_size 22 = .ok (.putfield 7, 3) := by decide +kernel
theorem dX8_size_25 : decode cX8_size 25 = .ok (.iconst 0, 1) := by decide +kernel
theorem dX8_size_26 : decode cX8_size 26 = .ok (.istore_n 3, 1) := by decide +kernel
theorem dX8_size_27 : decode cX8_size 27 = .ok (.iload_n 3, 1) := by decide +kernel
theorem dX8_size_28 : decode cX8_size 28 = .ok (.bipush 9, 2) := by decide +kernel
theorem dX8_size_30 : decode cX8_size 30 = .ok (.if_icmp .ge 26, 3) := by decide +kernel
theorem dX8_size_33 : decode cX8_size 33 = .ok (.aload_n 0, 1) := by decide +kernel
theorem dX8_size_34 : decode cX8_size 34 = .ok (.getfield 13, 3) := by decide +kernel
theorem dX8_size_37 : decode cX8_size 37 = .ok (.iload_n 3, 1) := by decide +kernel
theorem dX8_size_38 : decode cX8_size 38 = .ok (.iload_n 3, 1) := by decide +kernel
theorem dX8_size_39 : decode cX8_size 39 = .ok (.iconst 4, 1) := by decide +kernel
theorem dX8_size_40 : decode cX8_size 40 = .ok (.irem, 1) := by decide +kernel
theorem dX8_size_41 : decode cX8_size 41 = .ok (.ifCond .ne 7, 3) := by decide +kernel
theorem dX8_size_44 : decode cX8_size 44 = .ok (.iconst 1, 1) := by decide +kernel
theorem dX8_size_45 : decode cX8_size 45 = .ok (.goto 4, 3) := by decide +kernel
theorem dX8_size_48 : decode cX8_size 48 = .ok (.iconst 0, 1) := by decide +kernel
theorem dX8_size_49 : decode cX8_size 49 = .ok (.iastore, 1) := by decide +kernel
theorem dX8_size_50 : decode cX8_size 50 = .ok (.iinc 3 1, 3) := by decide +kernel
theorem dX8_size_53 : decode cX8_size 53 = .ok (.goto (-26), 3) := by decide +kernel
theorem dX8_size_56 : decode cX8_size 56 = .ok (.iconst 0, 1) := by decide +kernel
theorem dX8_size_57 : decode cX8_size 57 = .ok (.istore_n 3, 1) := by decide +kernel
theorem dX8_size_58 : decode cX8_size 58 = .ok (.iload_n 3, 1) := by decide +kernel
theorem dX8_size_59 : decode cX8_size 59 = .ok (.iconst 3, 1) := by decide +kernel
theorem dX8_size_60 : decode cX8_size 60 = .ok (.if_icmp .ge 16, 3) := by decide +kernel
theorem dX8_size_63 : decode cX8_size 63 = .ok (.aload_n 0, 1) := by decide +kernel
theorem dX8_size_64 : decode cX8_size 64 = .ok (.getfield 17, 3) := by decide +kernel
theorem dX8_size_67 : decode cX8_size 67 = .ok (.iload_n 3, 1) := by decide +kernel
theorem dX8_size_68 : decode cX8_size 68 = .ok (.iconst 0, 1) := by decide +kernel
theorem dX8_size_69 : decode cX8_size 69 = .ok (.iastore, 1) := by decide +kernel
theorem dX8_size_70 : decode cX8_size 70 = .ok (.iinc 3 1, 3) := by decide +kernel
theorem dX8_size_73 : decode cX8_size 73 = .ok (.goto (-15), 3) := by decide +kernel
theorem dX8_size_76 : decode cX8_size 76 = .ok (.aload_n 0, 1) := by decide +kernel
theorem dX8_size_77 : decode cX8_size 77 = .ok (.iconst 0, 1) := by decide +kernel
theorem dX8_size_78 : decode cX8_size 78 = .ok (.putfield 93, 3) := by decide +kernel
theorem dX8_size_81 : decode cX8_size 81 = .ok (.aload_n 0, 1) := by decide +kernel
theorem dX8_size_82 : decode cX8_size 82 = .ok (.iconst 0, 1) := by decide +kernel
theorem dX8_size_83 : decode cX8_size 83 = .ok (.putfield 88, 3) := by decide +kernel
theorem dX8_size_86 : decode cX8_size 86 = .ok (.iload_n 2, 1) := by decide +kernel
theorem dX8_size_87 : decode cX8_size 87 = .ok (.ireturn, 1) := by decide +kernel
theorem dX8_bend_0 : decode cX8_bend 0 = .ok (.aload_n 0, 1) := by decide +kernel
theorem dX8_bend_1 : decode cX8_bend 1 = .ok (.iload_n 1, 1) := by decide +kernel
theorem dX8_bend_2 : decode cX8_bend 2 = .ok (.invokevirtual 96, 3) := by decide +kernel
theorem dX8_bend_5 : decode cX8_bend 5 = .ok (.ifCond .eq 45, 3) := by decide +kernel
theorem dX8_bend_8 : decode cX8_bend 8 = .ok (.aload_n 0, 1) := by decide +kernel
theorem dX8_bend_9 : decode cX8_bend 9 = .ok (.iload_n 2, 1) := by decide +kernel
theorem dX8_bend_10 : decode cX8_bend 10 = .ok (.invokevirtual 96, 3) := by decide +kernel
theorem dX8_bend_13 : decode cX8_bend 13 = .ok (.ifCond .eq 37, 3) := by decide +kernel
theorem dX8_bend_16 : decode cX8_bend 16 = .ok (.iload_n 3, 1) := by decide +kernel
theorem dX8_bend_17 : decode cX8_bend 17 = .ok (.i2l, 1) := by decide +kernel
theorem dX8_bend_18 : decode cX8_bend 18 = .ok (.iload_n 1, 1) := by decide +kernel
theorem dX8_bend_19 : decode cX8_bend 19 = .ok (.iload_n 2, 1) := by decide +kernel
theorem dX8_bend_20 : decode cX8_bend 20 = .ok (.if_icmp .ne 7, 3) := by decide +kernel
theorem dX8_bend_23 : decode cX8_bend 23 = .ok (.lconst 1, 1) := by decide +kernel
theorem dX8_bend_24 : decode cX8_bend 24 = .ok (.goto 6, 3) := by decide +kernel
theorem dX8_bend_27 : decode cX8_bend 27 = .ok (.ldc2_w 100, 3) := by decide +kernel
theorem dX8_bend_30 : decode cX8_bend 30 = .ok (.iload_n 1, 1) := by decide +kernel
theorem dX8_bend_31 : decode cX8_bend 31 = .ok (.iload_n 2, 1) := by decide +kernel
theorem dX8_bend_32 : decode cX8_bend 32 = .ok (.if_icmp .ne 9, 3) := by decide +kernel
theorem dX8_bend_35 : decode cX8_bend 35 = .ok (.ldc2_w 102, 3) := by decide +kernel
theorem dX8_bend_38 : decode cX8_bend 38 = .ok (.goto 6, 3) := by decide +kernel
theorem dX8_bend_41 : decode cX8_bend 41 = .ok (.ldc2_w 104, 3) := by decide +kernel
theorem dX8_bend_44 : decode cX8_bend 44 = .ok (.invokestatic 84, 3) := by decide +kernel
theorem dX8_bend_47 : decode cX8_bend 47 = .ok (.ifCond .ne 6, 3) := by decide +kernel
theorem dX8_bend_50 : decode cX8_bend 50 = .ok (.bipush (-2), 2) := by decide +kernel
theorem dX8_bend_52 : decode cX8_bend 52 = .ok (.ireturn, 1) := by decide +kernel
theorem dX8_bend_53 : decode cX8_bend 53 = .ok (.aload_n 0, 1) := by decide +kernel
theorem dX8_bend_54 : decode cX8_bend 54 = .ok (.getfield 13, 3) := by decide +kernel
theorem dX8_bend_57 : decode cX8_bend 57 = .ok (.iconst 3, 1) := by decide +kernel
theorem dX8_bend_58 : decode cX8_bend 58 = .ok (.iload_n 1, 1) := by decide +kernel
theorem dX8_bend_59 : decode cX8_bend 59 = .ok (.imul, 1) := by decide +kernel
theorem dX8_bend_60 : decode cX8_bend 60 = .ok (.iload_n 2, 1) := by decide +kernel
theorem dX8_bend_61 : decode cX8_bend 61 = .ok (.iadd, 1) := by decide +kernel
theorem dX8_bend_62 : decode cX8_bend 62 = .ok (.iaload, 1) := by decide +kernel
theorem dX8_bend_63 : decode cX8_bend 63 = .ok (.istore 4, 2) := by decide +kernel
theorem dX8_bend_65 : decode cX8_bend 65 = .ok (.aload_n 0, 1) := by decide +kernel
theorem dX8_bend_66 : decode cX8_bend 66 = .ok (.getfield 13, 3) := by decide +kernel
theorem dX8_bend_69 : decode cX8_bend 69 = .ok (.iconst 3, 1) := by decide +kernel
theorem dX8_bend_70 : decode cX8_bend 70 = .ok (.iload_n 1, 1) := by decide +kernel
theorem dX8_bend_71 : decode cX8_bend 71 = .ok (.imul, 1) := by decide +kernel
theorem dX8_bend_72 : decode cX8_bend 72 = .ok (.iload_n 2, 1) := by decide +kernel
theorem dX8_bend_73 : decode cX8_bend 73 = .ok (.iadd, 1) := by decide +kernel
theorem dX8_bend_74 : decode cX8_bend 74 = .ok (.iload_n 3, 1) := by decide +kernel
theorem dX8_bend_75 : decode cX8_bend 75 = .ok (.iastore, 1) := by decide +kernel
theorem dX8_bend_76 : decode cX8_bend 76 = .ok (.aload_n 0, 1) := by decide +kernel
theorem dX8_bend_77 : decode cX8_bend 77 = .ok (.getfield 13, 3) := by decide +kernel
theorem dX8_bend_80 : decode cX8_bend 80 = .ok (.iconst 3, 1) := by decide +kernel
theorem dX8_bend_81 : decode cX8_bend 81 = .ok (.iload_n 2, 1) := by decide +kernel
theorem dX8_bend_82 : decode cX8_bend 82 = .ok (.imul, 1) := by decide +kernel
theorem dX8_bend_83 : decode cX8_bend 83 = .ok (.iload_n 1, 1) := by decide +kernel
theorem dX8_bend_84 : decode cX8_bend 84 = .ok (.iadd, 1) := by decide +kernel
theorem dX8_bend_85 : decode cX8_bend 85 = .ok (.iload_n 3, 1) := by decide +kernel
theorem dX8_bend_86 : decode cX8_bend 86 = .ok (.iastore, 1) := by decide +kernel
theorem dX8_bend_87 : decode cX8_bend 87 = .ok (.iload 4, 2) := by decide +kernel
theorem dX8_bend_89 : decode cX8_bend 89 = .ok (.ireturn, 1) := by decide +kernel
theorem dX8_push_0 : decode cX8_push 0 = .ok (.aload_n 0, 1) := by decide +kernel
theorem dX8_push_1 : decode cX8_push 1 = .ok (.iload_n 1, 1) := by decide +kernel
theorem dX8_push_2 : decode cX8_push 2 = .ok (.invokevirtual 96, 3) := by decide +kernel
theorem dX8_push_5 : decode cX8_push 5 = .ok (.ifCond .eq 17, 3) := by decide +kernel
theorem dX8_push_8 : decode cX8_push 8 = .ok (.iload_n 2, 1) := by decide +kernel
theorem dX8_push_9 : decode cX8_push 9 = .ok (.i2l, 1) := by decide +kernel
theorem dX8_push_10 : decode cX8_push 10 = .ok (.ldc2_w 106, 3) := by decide +kernel
theorem dX8_push_13 : decode cX8_push 13 = .ok (.ldc2_w 108, 3) := by decide +kernel
theorem dX8_push_16 : decode cX8_push 16 = .ok (.invokestatic 84, 3) := by decide +kernel
theorem dX8_push_19 : decode cX8_push 19 = .ok (.ifCond .ne 6, 3) := by decide +kernel
theorem dX8_push_22 : decode cX8_push 22 = .ok (.bipush (-2), 2) := by decide +kernel
theorem dX8_push_24 : decode cX8_push 24 = .ok (.ireturn, 1) := by decide +kernel
theorem dX8_push_25 : decode cX8_push 25 = .ok (.aload_n 0, 1) := by decide +kernel
theorem dX8_push_26 : decode cX8_push 26 = .ok (.getfield 17, 3) := by decide +kernel
theorem dX8_push_29 : decode cX8_push 29 = .ok (.iload_n 1, 1) := by decide +kernel
theorem dX8_push_30 : decode cX8_push 30 = .ok (.iaload, 1) := by decide +kernel
theorem dX8_push_31 : decode cX8_push 31 = .ok (.istore_n 3, 1) := by decide +kernel
theorem dX8_push_32 : decode cX8_push 32 = .ok (.aload_n 0, 1) := by decide +kernel
theorem dX8_push_33 : decode cX8_push 33 = .ok (.getfield 17, 3) := by decide +kernel
theorem dX8_push_36 : decode cX8_push 36 = .ok (.iload_n 1, 1) := by decide +kernel
theorem dX8_push_37 : decode cX8_push 37 = .ok (.iload_n 2, 1) := by decide +kernel
theorem dX8_push_38 : decode cX8_push 38 = .ok (.iastore, 1) := by decide +kernel
theorem dX8_push_39 : decode cX8_push 39 = .ok (.iload_n 3, 1) := by decide +kernel
theorem dX8_push_40 : decode cX8_push 40 = .ok (.ireturn, 1) := by decide +kernel
theorem dX8_tide_0 : decode cX8_tide 0 = .ok (.iload_n 1, 1) := by decide +kernel
theorem dX8_tide_1 : decode cX8_tide 1 = .ok (.i2l, 1) := by decide +kernel
theorem dX8_tide_2 : decode cX8_tide 2 = .ok (.lconst 0, 1) := by decide +kernel
theorem dX8_tide_3 : decode cX8_tide 3 = .ok (.ldc2_w 110, 3) := by decide +kernel
theorem dX8_tide_6 : decode cX8_tide 6 = .ok (.invokestatic 84, 3) := by decide +kernel
theorem dX8_tide_9 : decode cX8_tide 9 = .ok (.ifCond .ne 6, 3) := by decide +kernel
theorem dX8_tide_12 : decode cX8_tide 12 = .ok (.bipush (-2), 2) := by decide +kernel
theorem dX8_tide_14 : decode cX8_tide 14 = .ok (.ireturn, 1) := by decide +kernel
theorem dX8_tide_15 : decode cX8_tide 15 = .ok (.aload_n 0, 1) := by decide +kernel
theorem dX8_tide_16 : decode cX8_tide 16 = .ok (.getfield 93, 3) := by decide +kernel
theorem dX8_tide_19 : decode cX8_tide 19 = .ok (.istore_n 2, 1) := by decide +kernel
theorem dX8_tide_20 : decode cX8_tide 20 = .ok (.aload_n 0, 1) := by decide +kernel
theorem dX8_tide_21 : decode cX8_tide 21 = .ok (.iload_n 1, 1) := by decide +kernel
theorem dX8_tide_22 : decode cX8_tide 22 = .ok (.putfield 93, 3) := by decide +kernel
theorem dX8_tide_25 : decode cX8_tide 25 = .ok (.iload_n 2, 1) := by decide +kernel
theorem dX8_tide_26 : decode cX8_tide 26 = .ok (.ireturn, 1) := by decide +kernel
theorem dX8_line_0 : decode cX8_line 0 = .ok (.iload_n 1, 1) := by decide +kernel
theorem dX8_line_1 : decode cX8_line 1 = .ok (.i2l, 1) := by decide +kernel
theorem dX8_line_2 : decode cX8_line 2 = .ok (.lconst 0, 1) := by decide +kernel
theorem dX8_line_3 : decode cX8_line 3 = .ok (.ldc2_w 112, 3) := by decide +kernel
theorem dX8_line_6 : decode cX8_line 6 = .ok (.invokestatic 84, 3) := by decide +kernel
theorem dX8_line_9 : decode cX8_line 9 = .ok (.ifCond .eq 31, 3) := by decide +kernel
theorem dX8_line_12 : decode cX8_line 12 = .ok (.iload_n 2, 1) := by decide +kernel
theorem dX8_line_13 : decode cX8_line 13 = .ok (.i2l, 1) := by decide +kernel
theorem dX8_line_14 : decode cX8_line 14 = .ok (.ldc2_w 106, 3) := by decide +kernel
theorem dX8_line_17 : decode cX8_line 17 = .ok (.ldc2_w 108, 3) := by decide +kernel
theorem dX8_line_20 : decode cX8_line 20 = .ok (.invokestatic 84, 3) := by decide +kernel
theorem dX8_line_23 : decode cX8_line 23 = .ok (.ifCond .eq 17, 3) := by decide +kernel
theorem dX8_line_26 : decode cX8_line 26 = .ok (.iload_n 3, 1) := by decide +kernel
theorem dX8_line_27 : decode cX8_line 27 = .ok (.i2l, 1) := by decide +kernel
theorem dX8_line_28 : decode cX8_line 28 = .ok (.ldc2_w 100, 3) := by decide +kernel
theorem dX8_line_31 : decode cX8_line 31 = .ok (.ldc2_w 104, 3) := by decide +kernel
theorem dX8_line_34 : decode cX8_line 34 = .ok (.invokestatic 84, 3) := by decide +kernel
theorem dX8_line_37 : decode cX8_line 37 = .ok (.ifCond .ne 6, 3) := by decide +kernel
theorem dX8_line_40 : decode cX8_line 40 = .ok (.bipush (-2), 2) := by decide +kernel
theorem dX8_line_42 : decode cX8_line 42 = .ok (.ireturn, 1) := by decide +kernel
theorem dX8_line_43 : decode cX8_line 43 = .ok (.aload_n 0, 1) := by decide +kernel
theorem dX8_line_44 : decode cX8_line 44 = .ok (.getfield 88, 3) := by decide +kernel
theorem dX8_line_47 : decode cX8_line 47 = .ok (.bipush 6, 2) := by decide +kernel
theorem dX8_line_49 : decode cX8_line 49 = .ok (.if_icmp .ne 6, 3) := by decide +kernel
theorem dX8_line_52 : decode cX8_line 52 = .ok (.bipush (-4), 2) := by decide +kernel
theorem dX8_line_54 : decode cX8_line 54 = .ok (.ireturn, 1) := by decide +kernel
theorem dX8_line_55 : decode cX8_line 55 = .ok (.bipush 6, 2) := by decide +kernel
theorem dX8_line_57 : decode cX8_line 57 = .ok (.aload_n 0, 1) := by decide +kernel
theorem dX8_line_58 : decode cX8_line 58 = .ok (.getfield 88, 3) := by decide +kernel
theorem dX8_line_61 : decode cX8_line 61 = .ok (.imul, 1) := by decide +kernel
theorem dX8_line_62 : decode cX8_line 62 = .ok (.istore 4, 2) := by decide +kernel
theorem dX8_line_64 : decode cX8_line 64 = .ok (.aload_n 0, 1) := by decide +kernel
theorem dX8_line_65 : decode cX8_line 65 = .ok (.getfield 20, 3) := by decide +kernel
theorem dX8_line_68 : decode cX8_line 68 = .ok (.iload 4, 2) := by decide +kernel
theorem dX8_line_70 : decode cX8_line 70 = .ok (.iload_n 1, 1) := by decide +kernel
theorem dX8_line_71 : decode cX8_line 71 = .ok (.iastore, 1) := by decide +kernel
theorem dX8_line_72 : decode cX8_line 72 = .ok (.aload_n 0, 1) := by decide +kernel
theorem dX8_line_73 : decode cX8_line 73 = .ok (.getfield 20, 3) := by decide +kernel
theorem dX8_line_76 : decode cX8_line 76 = .ok (.iload 4, 2) := by decide +kernel
theorem dX8_line_78 : decode cX8_line 78 = .ok (.iconst 1, 1) := by decide +kernel
theorem dX8_line_79 : decode cX8_line 79 = .ok (.iadd, 1) := by decide +kernel
theorem dX8_line_80 : decode cX8_line 80 = .ok (.iload_n 2, 1) := by decide +kernel
theorem dX8_line_81 : decode cX8_line 81 = .ok (.iastore, 1) := by decide +kernel
theorem dX8_line_82 : decode cX8_line 82 = .ok (.aload_n 0, 1) := by decide +kernel
theorem dX8_line_83 : decode cX8_line 83 = .ok (.getfield 20, 3) := by decide +kernel
theorem dX8_line_86 : decode cX8_line 86 = .ok (.iload 4, 2) := by decide +kernel
theorem dX8_line_88 : decode cX8_line 88 = .ok (.iconst 2, 1) := by decide +kernel
theorem dX8_line_89 : decode cX8_line 89 = .ok (.iadd, 1) := by decide +kernel
theorem dX8_line_90 : decode cX8_line 90 = .ok (.iload_n 3, 1) := by decide +kernel
theorem dX8_line_91 : decode cX8_line 91 = .ok (.iastore, 1) := by decide +kernel
theorem dX8_line_92 : decode cX8_line 92 = .ok (.iconst 0, 1) := by decide +kernel
theorem dX8_line_93 : decode cX8_line 93 = .ok (.istore 5, 2) := by decide +kernel
theorem dX8_line_95 : decode cX8_line 95 = .ok (.iload 5, 2) := by decide +kernel
theorem dX8_line_97 : decode cX8_line 97 = .ok (.iconst 3, 1) := by decide +kernel
theorem dX8_line_98 : decode cX8_line 98 = .ok (.if_icmp .ge 22, 3) := by decide +kernel
theorem dX8_line_101 : decode cX8_line 101 = .ok (.aload_n 0, 1) := by decide +kernel
theorem dX8_line_102 : decode cX8_line 102 = .ok (.getfield 20, 3) := by decide +kernel
theorem dX8_line_105 : decode cX8_line 105 = .ok (.iload 4, 2) := by decide +kernel
theorem dX8_line_107 : decode cX8_line 107 = .ok (.iconst 3, 1) := by decide +kernel
theorem dX8_line_108 : decode cX8_line 108 = .ok (.iadd, 1) := by decide +kernel
theorem dX8_line_109 : decode cX8_line 109 = .ok (.iload 5, 2) := by decide +kernel
theorem dX8_line_111 : decode cX8_line 111 = .ok (.iadd, 1) := by decide +kernel
theorem dX8_line_112 : decode cX8_line 112 = .ok (.iconst 0, 1) := by decide +kernel
theorem dX8_line_113 : decode cX8_line 113 = .ok (.iastore, 1) := by decide +kernel
theorem dX8_line_114 : decode cX8_line 114 = .ok (.iinc 5 1, 3) := by decide +kernel
theorem dX8_line_117 : decode cX8_line 117 = .ok (.goto (-22), 3) := by decide +kernel
theorem dX8_line_120 : decode cX8_line 120 = .ok (.aload_n 0, 1) := by decide +kernel
theorem dX8_line_121 : decode cX8_line 121 = .ok (.dup, 1) := by decide +kernel
theorem dX8_line_122 : decode cX8_line 122 = .ok (.getfield 88, 3) := by decide +kernel
theorem dX8_line_125 : decode cX8_line 125 = .ok (.iconst 1, 1) := by decide +kernel
theorem dX8_line_126 : decode cX8_line 126 = .ok (.iadd, 1) := by decide +kernel
theorem dX8_line_127 : decode cX8_line 127 = .ok (.putfield 88, 3) := by decide +kernel
theorem dX8_line_130 : decode cX8_line 130 = .ok (.aload_n 0, 1) := by decide +kernel
theorem dX8_line_131 : decode cX8_line 131 = .ok (.getfield 88, 3) := by decide +kernel
theorem dX8_line_134 : decode cX8_line 134 = .ok (.iconst 1, 1) := by decide +kernel
theorem dX8_line_135 : decode cX8_line 135 = .ok (.isub, 1) := by decide +kernel
theorem dX8_line_136 : decode cX8_line 136 = .ok (.ireturn, 1) := by decide +kernel
theorem dX8_becomes_0 : decode cX8_becomes 0 = .ok (.aload_n 0, 1) := by decide +kernel
theorem dX8_becomes_1 : decode cX8_becomes 1 = .ok (.getfield 20, 3) := by decide +kernel
theorem dX8_becomes_4 : decode cX8_becomes 4 = .ok (.iload_n 1, 1) := by decide +kernel
theorem dX8_becomes_5 : decode cX8_becomes 5 = .ok (.iaload, 1) := by decide +kernel
theorem dX8_becomes_6 : decode cX8_becomes 6 = .ok (.istore_n 3, 1) := by decide +kernel
theorem dX8_becomes_7 : decode cX8_becomes 7 = .ok (.aload_n 0, 1) := by decide +kernel
theorem dX8_becomes_8 : decode cX8_becomes 8 = .ok (.getfield 20, 3) := by decide +kernel
theorem dX8_becomes_11 : decode cX8_becomes 11 = .ok (.iload_n 1, 1) := by decide +kernel
theorem dX8_becomes_12 : decode cX8_becomes 12 = .ok (.iload_n 2, 1) := by decide +kernel
theorem dX8_becomes_13 : decode cX8_becomes 13 = .ok (.iastore, 1) := by decide +kernel
theorem dX8_becomes_14 : decode cX8_becomes 14 = .ok (.iload_n 3, 1) := by decide +kernel
theorem dX8_becomes_15 : decode cX8_becomes 15 = .ok (.ireturn, 1) := by decide +kernel
theorem dX8_slope_0 : decode cX8_slope 0 = .ok (.aload_n 0, 1) := by decide +kernel
theorem dX8_slope_1 : decode cX8_slope 1 = .ok (.iload_n 1, 1) := by decide +kernel
theorem dX8_slope_2 : decode cX8_slope 2 = .ok (.invokevirtual 114, 3) := by decide +kernel
theorem dX8_slope_5 : decode cX8_slope 5 = .ok (.ifCond .eq 45, 3) := by decide +kernel
theorem dX8_slope_8 : decode cX8_slope 8 = .ok (.iload_n 2, 1) := by decide +kernel
theorem dX8_slope_9 : decode cX8_slope 9 = .ok (.i2l, 1) := by decide +kernel
theorem dX8_slope_10 : decode cX8_slope 10 = .ok (.lconst 0, 1) := by decide +kernel
theorem dX8_slope_11 : decode cX8_slope 11 = .ok (.ldc2_w 117, 3) := by decide +kernel
theorem dX8_slope_14 : decode cX8_slope 14 = .ok (.invokestatic 84, 3) := by decide +kernel
theorem dX8_slope_17 : decode cX8_slope 17 = .ok (.ifCond .eq 33, 3) := by decide +kernel
theorem dX8_slope_20 : decode cX8_slope 20 = .ok (.iload_n 3, 1) := by decide +kernel
theorem dX8_slope_21 : decode cX8_slope 21 = .ok (.i2l, 1) := by decide +kernel
theorem dX8_slope_22 : decode cX8_slope 22 = .ok (.ldc2_w 100, 3) := by decide +kernel
theorem dX8_slope_25 : decode cX8_slope 25 = .ok (.ldc2_w 104, 3) := by decide +kernel
theorem dX8_slope_28 : decode cX8_slope 28 = .ok (.invokestatic 84, 3) := by decide +kernel
theorem dX8_slope_31 : decode cX8_slope 31 = .ok (.ifCond .eq 19, 3) := by decide +kernel
theorem dX8_slope_34 : decode cX8_slope 34 = .ok (.aload_n 0, 1) := by decide +kernel
theorem dX8_slope_35 : decode cX8_slope 35 = .ok (.bipush 6, 2) := by decide +kernel
theorem dX8_slope_37 : decode cX8_slope 37 = .ok (.iload_n 1, 1) := by decide +kernel
theorem dX8_slope_38 : decode cX8_slope 38 = .ok (.imul, 1) := by decide +kernel
theorem dX8_slope_39 : decode cX8_slope 39 = .ok (.iconst 3, 1) := by decide +kernel
theorem dX8_slope_40 : decode cX8_slope 40 = .ok (.iadd, 1) := by decide +kernel
theorem dX8_slope_41 : decode cX8_slope 41 = .ok (.iload_n 2, 1) := by decide +kernel
theorem dX8_slope_42 : decode cX8_slope 42 = .ok (.iadd, 1) := by decide +kernel
theorem dX8_slope_43 : decode cX8_slope 43 = .ok (.iload_n 3, 1) := by decide +kernel
theorem dX8_slope_44 : decode cX8_slope 44 = .ok (.invokevirtual 119, 3) := by decide +kernel
theorem dX8_slope_47 : decode cX8_slope 47 = .ok (.goto 5, 3) := by decide +kernel
theorem dX8_slope_50 : decode cX8_slope 50 = .ok (.bipush (-2), 2) := by decide +kernel
theorem dX8_slope_52 : decode cX8_slope 52 = .ok (.ireturn, 1) := by decide +kernel
theorem dX8_change_0 : decode cX8_change 0 = .ok (.iload_n 2, 1) := by decide +kernel
theorem dX8_change_1 : decode cX8_change 1 = .ok (.ifCond .ne 15, 3) := by decide +kernel
theorem dX8_change_4 : decode cX8_change 4 = .ok (.iload_n 3, 1) := by decide +kernel
theorem dX8_change_5 : decode cX8_change 5 = .ok (.i2l, 1) := by decide +kernel
theorem dX8_change_6 : decode cX8_change 6 = .ok (.lconst 0, 1) := by decide +kernel
theorem dX8_change_7 : decode cX8_change 7 = .ok (.ldc2_w 112, 3) := by decide +kernel
theorem dX8_change_10 : decode cX8_change 10 = .ok (.invokestatic 84, 3) := by decide +kernel
theorem dX8_change_13 : decode cX8_change 13 = .ok (.goto 46, 3) := by decide +kernel
theorem dX8_change_16 : decode cX8_change 16 = .ok (.iload_n 2, 1) := by decide +kernel
theorem dX8_change_17 : decode cX8_change 17 = .ok (.iconst 1, 1) := by decide +kernel
theorem dX8_change_18 : decode cX8_change 18 = .ok (.if_icmp .ne 17, 3) := by decide +kernel
theorem dX8_change_21 : decode cX8_change 21 = .ok (.iload_n 3, 1) := by decide +kernel
theorem dX8_change_22 : decode cX8_change 22 = .ok (.i2l, 1) := by decide +kernel
theorem dX8_change_23 : decode cX8_change 23 = .ok (.ldc2_w 106, 3) := by decide +kernel
theorem dX8_change_26 : decode cX8_change 26 = .ok (.ldc2_w 108, 3) := by decide +kernel
theorem dX8_change_29 : decode cX8_change 29 = .ok (.invokestatic 84, 3) := by decide +kernel
theorem dX8_change_32 : decode cX8_change 32 = .ok (.goto 27, 3) := by decide +kernel
theorem dX8_change_35 : decode cX8_change 35 = .ok (.iload_n 2, 1) := by decide +kernel
theorem dX8_change_36 : decode cX8_change 36 = .ok (.iconst 2, 1) := by decide +kernel
theorem dX8_change_37 : decode cX8_change 37 = .ok (.if_icmp .ne 21, 3) := by decide +kernel
theorem dX8_change_40 : decode cX8_change 40 = .ok (.iload_n 3, 1) := by decide +kernel
theorem dX8_change_41 : decode cX8_change 41 = .ok (.i2l, 1) := by decide +kernel
theorem dX8_change_42 : decode cX8_change 42 = .ok (.ldc2_w 100, 3) := by decide +kernel
theorem dX8_change_45 : decode cX8_change 45 = .ok (.ldc2_w 104, 3) := by decide +kernel
theorem dX8_change_48 : decode cX8_change 48 = .ok (.invokestatic 84, 3) := by decide +kernel
theorem dX8_change_51 : decode cX8_change 51 = .ok (.ifCond .eq 7, 3) := by decide +kernel
theorem dX8_change_54 : decode cX8_change 54 = .ok (.iconst 1, 1) := by decide +kernel
theorem dX8_change_55 : decode cX8_change 55 = .ok (.goto 4, 3) := by decide +kernel
theorem dX8_change_58 : decode cX8_change 58 = .ok (.iconst 0, 1) := by decide +kernel
theorem dX8_change_59 : decode cX8_change 59 = .ok (.istore 4, 2) := by decide +kernel
theorem dX8_change_61 : decode cX8_change 61 = .ok (.aload_n 0, 1) := by decide +kernel
theorem dX8_change_62 : decode cX8_change 62 = .ok (.iload_n 1, 1) := by decide +kernel
theorem dX8_change_63 : decode cX8_change 63 = .ok (.invokevirtual 114, 3) := by decide +kernel
theorem dX8_change_66 : decode cX8_change 66 = .ok (.ifCond .eq 22, 3) := by decide +kernel
theorem dX8_change_69 : decode cX8_change 69 = .ok (.iload 4, 2) := by decide +kernel
theorem dX8_change_71 : decode cX8_change 71 = .ok (.ifCond .eq 17, 3) := by decide +kernel
theorem dX8_change_74 : decode cX8_change 74 = .ok (.aload_n 0, 1) := by decide +kernel
theorem dX8_change_75 : decode cX8_change 75 = .ok (.bipush 6, 2) := by decide +kernel
theorem dX8_change_77 : decode cX8_change 77 = .ok (.iload_n 1, 1) := by decide +kernel
theorem dX8_change_78 : decode cX8_change 78 = .ok (.imul, 1) := by decide +kernel
theorem dX8_change_79 : decode cX8_change 79 = .ok (.iload_n 2, 1) := by decide +kernel
theorem dX8_change_80 : decode cX8_change 80 = .ok (.iadd, 1) := by decide +kernel
theorem dX8_change_81 : decode cX8_change 81 = .ok (.iload_n 3, 1) := by decide +kernel
theorem dX8_change_82 : decode cX8_change 82 = .ok (.invokevirtual 119, 3) := by decide +kernel
theorem dX8_change_85 : decode cX8_change 85 = .ok (.goto 5, 3) := by decide +kernel
theorem dX8_change_88 : decode cX8_change 88 = .ok (.bipush (-2), 2) := by decide +kernel
theorem dX8_change_90 : decode cX8_change 90 = .ok (.ireturn, 1) := by decide +kernel
theorem dX8_drop_0 : decode cX8_drop 0 = .ok (.aload_n 0, 1) := by decide +kernel
theorem dX8_drop_1 : decode cX8_drop 1 = .ok (.iload_n 1, 1) := by decide +kernel
theorem dX8_drop_2 : decode cX8_drop 2 = .ok (.invokevirtual 114, 3) := by decide +kernel
theorem dX8_drop_5 : decode cX8_drop 5 = .ok (.ifCond .ne 6, 3) := by decide +kernel
theorem dX8_drop_8 : decode cX8_drop 8 = .ok (.bipush (-2), 2) := by decide +kernel
theorem dX8_drop_10 : decode cX8_drop 10 = .ok (.ireturn, 1) := by decide +kernel
theorem dX8_drop_11 : decode cX8_drop 11 = .ok (.bipush 6, 2) := by decide +kernel
theorem dX8_drop_13 : decode cX8_drop 13 = .ok (.iload_n 1, 1) := by decide +kernel
theorem dX8_drop_14 : decode cX8_drop 14 = .ok (.imul, 1) := by decide +kernel
theorem dX8_drop_15 : decode cX8_drop 15 = .ok (.istore_n 2, 1) := by decide +kernel
theorem dX8_drop_16 : decode cX8_drop 16 = .ok (.iload_n 2, 1) := by decide +kernel
theorem dX8_drop_17 : decode cX8_drop 17 = .ok (.bipush 6, 2) := by decide +kernel
theorem dX8_drop_19 : decode cX8_drop 19 = .ok (.aload_n 0, 1) := by decide +kernel
theorem dX8_drop_20 : decode cX8_drop 20 = .ok (.getfield 88, 3) := by decide +kernel
theorem dX8_drop_23 : decode cX8_drop 23 = .ok (.iconst 1, 1) := by decide +kernel
theorem dX8_drop_24 : decode cX8_drop 24 = .ok (.isub, 1) := by decide +kernel
theorem dX8_drop_25 : decode cX8_drop 25 = .ok (.imul, 1) := by decide +kernel
theorem dX8_drop_26 : decode cX8_drop 26 = .ok (.if_icmp .ge 24, 3) := by decide +kernel
theorem dX8_drop_29 : decode cX8_drop 29 = .ok (.aload_n 0, 1) := by decide +kernel
theorem dX8_drop_30 : decode cX8_drop 30 = .ok (.getfield 20, 3) := by decide +kernel
theorem dX8_drop_33 : decode cX8_drop 33 = .ok (.iload_n 2, 1) := by decide +kernel
theorem dX8_drop_34 : decode cX8_drop 34 = .ok (.aload_n 0, 1) := by decide +kernel
theorem dX8_drop_35 : decode cX8_drop 35 = .ok (.getfield 20, 3) := by decide +kernel
theorem dX8_drop_38 : decode cX8_drop 38 = .ok (.iload_n 2, 1) := by decide +kernel
theorem dX8_drop_39 : decode cX8_drop 39 = .ok (.bipush 6, 2) := by decide +kernel
theorem dX8_drop_41 : decode cX8_drop 41 = .ok (.iadd, 1) := by decide +kernel
theorem dX8_drop_42 : decode cX8_drop 42 = .ok (.iaload, 1) := by decide +kernel
theorem dX8_drop_43 : decode cX8_drop 43 = .ok (.iastore, 1) := by decide +kernel
theorem dX8_drop_44 : decode cX8_drop 44 = .ok (.iinc 2 1, 3) := by decide +kernel
theorem dX8_drop_47 : decode cX8_drop 47 = .ok (.goto (-31), 3) := by decide +kernel
theorem dX8_drop_50 : decode cX8_drop 50 = .ok (.aload_n 0, 1) := by decide +kernel
theorem dX8_drop_51 : decode cX8_drop 51 = .ok (.dup, 1) := by decide +kernel
theorem dX8_drop_52 : decode cX8_drop 52 = .ok (.getfield 88, 3) := by decide +kernel
theorem dX8_drop_55 : decode cX8_drop 55 = .ok (.iconst 1, 1) := by decide +kernel
theorem dX8_drop_56 : decode cX8_drop 56 = .ok (.isub, 1) := by decide +kernel
theorem dX8_drop_57 : decode cX8_drop 57 = .ok (.putfield 88, 3) := by decide +kernel
theorem dX8_drop_60 : decode cX8_drop 60 = .ok (.aload_n 0, 1) := by decide +kernel
theorem dX8_drop_61 : decode cX8_drop 61 = .ok (.getfield 88, 3) := by decide +kernel
theorem dX8_drop_64 : decode cX8_drop 64 = .ok (.ireturn, 1) := by decide +kernel
theorem dX8_row_0 : decode cX8_row 0 = .ok (.aload_n 0, 1) := by decide +kernel
theorem dX8_row_1 : decode cX8_row 1 = .ok (.getfield 20, 3) := by decide +kernel
theorem dX8_row_4 : decode cX8_row 4 = .ok (.bipush 6, 2) := by decide +kernel
theorem dX8_row_6 : decode cX8_row 6 = .ok (.iload_n 1, 1) := by decide +kernel
theorem dX8_row_7 : decode cX8_row 7 = .ok (.imul, 1) := by decide +kernel
theorem dX8_row_8 : decode cX8_row 8 = .ok (.iaload, 1) := by decide +kernel
theorem dX8_row_9 : decode cX8_row 9 = .ok (.istore_n 3, 1) := by decide +kernel
theorem dX8_row_10 : decode cX8_row 10 = .ok (.aload_n 0, 1) := by decide +kernel
theorem dX8_row_11 : decode cX8_row 11 = .ok (.getfield 20, 3) := by decide +kernel
theorem dX8_row_14 : decode cX8_row 14 = .ok (.bipush 6, 2) := by decide +kernel
theorem dX8_row_16 : decode cX8_row 16 = .ok (.iload_n 1, 1) := by decide +kernel
theorem dX8_row_17 : decode cX8_row 17 = .ok (.imul, 1) := by decide +kernel
theorem dX8_row_18 : decode cX8_row 18 = .ok (.iconst 3, 1) := by decide +kernel
theorem dX8_row_19 : decode cX8_row 19 = .ok (.iadd, 1) := by decide +kernel
theorem dX8_row_20 : decode cX8_row 20 = .ok (.iload_n 2, 1) := by decide +kernel
theorem dX8_row_21 : decode cX8_row 21 = .ok (.iadd, 1) := by decide +kernel
theorem dX8_row_22 : decode cX8_row 22 = .ok (.iaload, 1) := by decide +kernel
theorem dX8_row_23 : decode cX8_row 23 = .ok (.istore 4, 2) := by decide +kernel
theorem dX8_row_25 : decode cX8_row 25 = .ok (.iload_n 2, 1) := by decide +kernel
theorem dX8_row_26 : decode cX8_row 26 = .ok (.aload_n 0, 1) := by decide +kernel
theorem dX8_row_27 : decode cX8_row 27 = .ok (.getfield 7, 3) := by decide +kernel
theorem dX8_row_30 : decode cX8_row 30 = .ok (.if_icmp .lt 7, 3) := by decide +kernel
theorem dX8_row_33 : decode cX8_row 33 = .ok (.iconst 0, 1) := by decide +kernel
theorem dX8_row_34 : decode cX8_row 34 = .ok (.goto 33, 3) := by decide +kernel
theorem dX8_row_37 : decode cX8_row 37 = .ok (.iload_n 3, 1) := by decide +kernel
theorem dX8_row_38 : decode cX8_row 38 = .ok (.iconst 1, 1) := by decide +kernel
theorem dX8_row_39 : decode cX8_row 39 = .ok (.if_icmp .eq 8, 3) := by decide +kernel
theorem dX8_row_42 : decode cX8_row 42 = .ok (.iload_n 3, 1) := by decide +kernel
theorem dX8_row_43 : decode cX8_row 43 = .ok (.iconst 4, 1) := by decide +kernel
theorem dX8_row_44 : decode cX8_row 44 = .ok (.if_icmp .ne 9, 3) := by decide +kernel
theorem dX8_row_47 : decode cX8_row 47 = .ok (.iload 4, 2) := by decide +kernel
theorem dX8_row_49 : decode cX8_row 49 = .ok (.ineg, 1) := by decide +kernel
theorem dX8_row_50 : decode cX8_row 50 = .ok (.goto 17, 3) := by decide +kernel
theorem dX8_row_53 : decode cX8_row 53 = .ok (.iload_n 3, 1) := by decide +kernel
theorem dX8_row_54 : decode cX8_row 54 = .ok (.iconst 3, 1) := by decide +kernel
theorem dX8_row_55 : decode cX8_row 55 = .ok (.if_icmp .ne 10, 3) := by decide +kernel
theorem dX8_row_58 : decode cX8_row 58 = .ok (.iconst 2, 1) := by decide +kernel
theorem dX8_row_59 : decode cX8_row 59 = .ok (.iload 4, 2) := by decide +kernel
theorem dX8_row_61 : decode cX8_row 61 = .ok (.imul, 1) := by decide +kernel
theorem dX8_row_62 : decode cX8_row 62 = .ok (.goto 5, 3) := by decide +kernel
theorem dX8_row_65 : decode cX8_row 65 = .ok (.iload 4, 2) := by decide +kernel
theorem dX8_row_67 : decode cX8_row 67 = .ok (.ireturn, 1) := by decide +kernel
theorem dX8_bound_0 : decode cX8_bound 0 = .ok (.aload_n 0, 1) := by decide +kernel
theorem dX8_bound_1 : decode cX8_bound 1 = .ok (.getfield 20, 3) := by decide +kernel
theorem dX8_bound_4 : decode cX8_bound 4 = .ok (.bipush 6, 2) := by decide +kernel
theorem dX8_bound_6 : decode cX8_bound 6 = .ok (.iload_n 1, 1) := by decide +kernel
theorem dX8_bound_7 : decode cX8_bound 7 = .ok (.imul, 1) := by decide +kernel
theorem dX8_bound_8 : decode cX8_bound 8 = .ok (.iaload, 1) := by decide +kernel
theorem dX8_bound_9 : decode cX8_bound 9 = .ok (.istore_n 2, 1) := by decide +kernel
theorem dX8_bound_10 : decode cX8_bound 10 = .ok (.aload_n 0, 1) := by decide +kernel
theorem dX8_bound_11 : decode cX8_bound 11 = .ok (.getfield 20, 3) := by decide +kernel
theorem dX8_bound_14 : decode cX8_bound 14 = .ok (.bipush 6, 2) := by decide +kernel
theorem dX8_bound_16 : decode cX8_bound 16 = .ok (.iload_n 1, 1) := by decide +kernel
theorem dX8_bound_17 : decode cX8_bound 17 = .ok (.imul, 1) := by decide +kernel
theorem dX8_bound_18 : decode cX8_bound 18 = .ok (.iconst 1, 1) := by decide +kernel
theorem dX8_bound_19 : decode cX8_bound 19 = .ok (.iadd, 1) := by decide +kernel
theorem dX8_bound_20 : decode cX8_bound 20 = .ok (.iaload, 1) := by decide +kernel
theorem dX8_bound_21 : decode cX8_bound 21 = .ok (.aload_n 0, 1) := by decide +kernel
theorem dX8_bound_22 : decode cX8_bound 22 = .ok (.getfield 93, 3) := by decide +kernel
theorem dX8_bound_25 : decode cX8_bound 25 = .ok (.aload_n 0, 1) := by decide +kernel
theorem dX8_bound_26 : decode cX8_bound 26 = .ok (.getfield 20, 3) := by decide +kernel
theorem dX8_bound_29 : decode cX8_bound 29 = .ok (.bipush 6, 2) := by decide +kernel
theorem dX8_bound_31 : decode cX8_bound 31 = .ok (.iload_n 1, 1) := by decide +kernel
theorem dX8_bound_32 : decode cX8_bound 32 = .ok (.imul, 1) := by decide +kernel
theorem dX8_bound_33 : decode cX8_bound 33 = .ok (.iconst 2, 1) := by decide +kernel
theorem dX8_bound_34 : decode cX8_bound 34 = .ok (.iadd, 1) := by decide +kernel
theorem dX8_bound_35 : decode cX8_bound 35 = .ok (.iaload, 1) := by decide +kernel
theorem dX8_bound_36 : decode cX8_bound 36 = .ok (.imul, 1) := by decide +kernel
theorem dX8_bound_37 : decode cX8_bound 37 = .ok (.iadd, 1) := by decide +kernel
theorem dX8_bound_38 : decode cX8_bound 38 = .ok (.istore_n 3, 1) := by decide +kernel
theorem dX8_bound_39 : decode cX8_bound 39 = .ok (.iload_n 2, 1) := by decide +kernel
theorem dX8_bound_40 : decode cX8_bound 40 = .ok (.iconst 1, 1) := by decide +kernel
theorem dX8_bound_41 : decode cX8_bound 41 = .ok (.if_icmp .ne 8, 3) := by decide +kernel
theorem dX8_bound_44 : decode cX8_bound 44 = .ok (.iload_n 3, 1) := by decide +kernel
theorem dX8_bound_45 : decode cX8_bound 45 = .ok (.ineg, 1) := by decide +kernel
theorem dX8_bound_46 : decode cX8_bound 46 = .ok (.goto 16, 3) := by decide +kernel
theorem dX8_bound_49 : decode cX8_bound 49 = .ok (.iload_n 2, 1) := by decide +kernel
theorem dX8_bound_50 : decode cX8_bound 50 = .ok (.iconst 4, 1) := by decide +kernel
theorem dX8_bound_51 : decode cX8_bound 51 = .ok (.if_icmp .ne 10, 3) := by decide +kernel
theorem dX8_bound_54 : decode cX8_bound 54 = .ok (.iload_n 3, 1) := by decide +kernel
theorem dX8_bound_55 : decode cX8_bound 55 = .ok (.ineg, 1) := by decide +kernel
theorem dX8_bound_56 : decode cX8_bound 56 = .ok (.iconst 1, 1) := by decide +kernel
theorem dX8_bound_57 : decode cX8_bound 57 = .ok (.isub, 1) := by decide +kernel
theorem dX8_bound_58 : decode cX8_bound 58 = .ok (.goto 4, 3) := by decide +kernel
theorem dX8_bound_61 : decode cX8_bound 61 = .ok (.iload_n 3, 1) := by decide +kernel
theorem dX8_bound_62 : decode cX8_bound 62 = .ok (.ireturn, 1) := by decide +kernel
theorem dX8_rise_0 : decode cX8_rise 0 = .ok (.aload_n 0, 1) := by decide +kernel
theorem dX8_rise_1 : decode cX8_rise 1 = .ok (.getfield 20, 3) := by decide +kernel
theorem dX8_rise_4 : decode cX8_rise 4 = .ok (.bipush 6, 2) := by decide +kernel
theorem dX8_rise_6 : decode cX8_rise 6 = .ok (.iload_n 1, 1) := by decide +kernel
theorem dX8_rise_7 : decode cX8_rise 7 = .ok (.imul, 1) := by decide +kernel
theorem dX8_rise_8 : decode cX8_rise 8 = .ok (.iaload, 1) := by decide +kernel
theorem dX8_rise_9 : decode cX8_rise 9 = .ok (.istore_n 2, 1) := by decide +kernel
theorem dX8_rise_10 : decode cX8_rise 10 = .ok (.iload_n 2, 1) := by decide +kernel
theorem dX8_rise_11 : decode cX8_rise 11 = .ok (.iconst 1, 1) := by decide +kernel
theorem dX8_rise_12 : decode cX8_rise 12 = .ok (.if_icmp .eq 8, 3) := by decide +kernel
theorem dX8_rise_15 : decode cX8_rise 15 = .ok (.iload_n 2, 1) := by decide +kernel
theorem dX8_rise_16 : decode cX8_rise 16 = .ok (.iconst 4, 1) := by decide +kernel
theorem dX8_rise_17 : decode cX8_rise 17 = .ok (.if_icmp .ne 18, 3) := by decide +kernel
theorem dX8_rise_20 : decode cX8_rise 20 = .ok (.aload_n 0, 1) := by decide +kernel
theorem dX8_rise_21 : decode cX8_rise 21 = .ok (.getfield 20, 3) := by decide +kernel
theorem dX8_rise_24 : decode cX8_rise 24 = .ok (.bipush 6, 2) := by decide +kernel
theorem dX8_rise_26 : decode cX8_rise 26 = .ok (.iload_n 1, 1) := by decide +kernel
theorem dX8_rise_27 : decode cX8_rise 27 = .ok (.imul, 1) := by decide +kernel
theorem dX8_rise_28 : decode cX8_rise 28 = .ok (.iconst 2, 1) := by decide +kernel
theorem dX8_rise_29 : decode cX8_rise 29 = .ok (.iadd, 1) := by decide +kernel
theorem dX8_rise_30 : decode cX8_rise 30 = .ok (.iaload, 1) := by decide +kernel
theorem dX8_rise_31 : decode cX8_rise 31 = .ok (.ineg, 1) := by decide +kernel
theorem dX8_rise_32 : decode cX8_rise 32 = .ok (.goto 14, 3) := by decide +kernel
theorem dX8_rise_35 : decode cX8_rise 35 = .ok (.aload_n 0, 1) := by decide +kernel
theorem dX8_rise_36 : decode cX8_rise 36 = .ok (.getfield 20, 3) := by decide +kernel
theorem dX8_rise_39 : decode cX8_rise 39 = .ok (.bipush 6, 2) := by decide +kernel
theorem dX8_rise_41 : decode cX8_rise 41 = .ok (.iload_n 1, 1) := by decide +kernel
theorem dX8_rise_42 : decode cX8_rise 42 = .ok (.imul, 1) := by decide +kernel
theorem dX8_rise_43 : decode cX8_rise 43 = .ok (.iconst 2, 1) := by decide +kernel
theorem dX8_rise_44 : decode cX8_rise 44 = .ok (.iadd, 1) := by decide +kernel
theorem dX8_rise_45 : decode cX8_rise 45 = .ok (.iaload, 1) := by decide +kernel
theorem dX8_rise_46 : decode cX8_rise 46 = .ok (.ireturn, 1) := by decide +kernel
theorem dX8_isOn_0 : decode cX8_isOn 0 = .ok (.aload_n 0, 1) := by decide +kernel
theorem dX8_isOn_1 : decode cX8_isOn 1 = .ok (.getfield 20, 3) := by decide +kernel
theorem dX8_isOn_4 : decode cX8_isOn 4 = .ok (.bipush 6, 2) := by decide +kernel
theorem dX8_isOn_6 : decode cX8_isOn 6 = .ok (.iload_n 1, 1) := by decide +kernel
theorem dX8_isOn_7 : decode cX8_isOn 7 = .ok (.imul, 1) := by decide +kernel
theorem dX8_isOn_8 : decode cX8_isOn 8 = .ok (.iaload, 1) := by decide +kernel
theorem dX8_isOn_9 : decode cX8_isOn 9 = .ok (.iconst 2, 1) := by decide +kernel
theorem dX8_isOn_10 : decode cX8_isOn 10 = .ok (.if_icmp .ne 7, 3) := by decide +kernel
theorem dX8_isOn_13 : decode cX8_isOn 13 = .ok (.iconst 1, 1) := by decide +kernel
theorem dX8_isOn_14 : decode cX8_isOn 14 = .ok (.goto 4, 3) := by decide +kernel
theorem dX8_isOn_17 : decode cX8_isOn 17 = .ok (.iconst 0, 1) := by decide +kernel
theorem dX8_isOn_18 : decode cX8_isOn 18 = .ok (.ireturn, 1) := by decide +kernel
theorem dX8_lineOf_0 : decode cX8_lineOf 0 = .ok (.aload_n 0, 1) := by decide +kernel
theorem dX8_lineOf_1 : decode cX8_lineOf 1 = .ok (.iload_n 1, 1) := by decide +kernel
theorem dX8_lineOf_2 : decode cX8_lineOf 2 = .ok (.invokevirtual 114, 3) := by decide +kernel
theorem dX8_lineOf_5 : decode cX8_lineOf 5 = .ok (.ifCond .eq 15, 3) := by decide +kernel
theorem dX8_lineOf_8 : decode cX8_lineOf 8 = .ok (.iload_n 2, 1) := by decide +kernel
theorem dX8_lineOf_9 : decode cX8_lineOf 9 = .ok (.i2l, 1) := by decide +kernel
theorem dX8_lineOf_10 : decode cX8_lineOf 10 = .ok (.lconst 0, 1) := by decide +kernel
theorem dX8_lineOf_11 : decode cX8_lineOf 11 = .ok (.ldc2_w 123, 3) := by decide +kernel
theorem dX8_lineOf_14 : decode cX8_lineOf 14 = .ok (.invokestatic 84, 3) := by decide +kernel
theorem dX8_lineOf_17 : decode cX8_lineOf 17 = .ok (.ifCond .ne 6, 3) := by decide +kernel
theorem dX8_lineOf_20 : decode cX8_lineOf 20 = .ok (.bipush (-2), 2) := by decide +kernel
theorem dX8_lineOf_22 : decode cX8_lineOf 22 = .ok (.ireturn, 1) := by decide +kernel
theorem dX8_lineOf_23 : decode cX8_lineOf 23 = .ok (.iload_n 2, 1) := by decide +kernel
theorem dX8_lineOf_24 : decode cX8_lineOf 24 = .ok (.iconst 3, 1) := by decide +kernel
theorem dX8_lineOf_25 : decode cX8_lineOf 25 = .ok (.if_icmp .ge 17, 3) := by decide +kernel
theorem dX8_lineOf_28 : decode cX8_lineOf 28 = .ok (.aload_n 0, 1) := by decide +kernel
theorem dX8_lineOf_29 : decode cX8_lineOf 29 = .ok (.getfield 20, 3) := by decide +kernel
theorem dX8_lineOf_32 : decode cX8_lineOf 32 = .ok (.bipush 6, 2) := by decide +kernel
theorem dX8_lineOf_34 : decode cX8_lineOf 34 = .ok (.iload_n 1, 1) := by decide +kernel
theorem dX8_lineOf_35 : decode cX8_lineOf 35 = .ok (.imul, 1) := by decide +kernel
theorem dX8_lineOf_36 : decode cX8_lineOf 36 = .ok (.iload_n 2, 1) := by decide +kernel
theorem dX8_lineOf_37 : decode cX8_lineOf 37 = .ok (.iadd, 1) := by decide +kernel
theorem dX8_lineOf_38 : decode cX8_lineOf 38 = .ok (.iaload, 1) := by decide +kernel
theorem dX8_lineOf_39 : decode cX8_lineOf 39 = .ok (.goto 24, 3) := by decide +kernel
theorem dX8_lineOf_42 : decode cX8_lineOf 42 = .ok (.iload_n 2, 1) := by decide +kernel
theorem dX8_lineOf_43 : decode cX8_lineOf 43 = .ok (.iconst 3, 1) := by decide +kernel
theorem dX8_lineOf_44 : decode cX8_lineOf 44 = .ok (.if_icmp .ne 11, 3) := by decide +kernel
theorem dX8_lineOf_47 : decode cX8_lineOf 47 = .ok (.aload_n 0, 1) := by decide +kernel
theorem dX8_lineOf_48 : decode cX8_lineOf 48 = .ok (.iload_n 1, 1) := by decide +kernel
theorem dX8_lineOf_49 : decode cX8_lineOf 49 = .ok (.invokevirtual 125, 3) := by decide +kernel
theorem dX8_lineOf_52 : decode cX8_lineOf 52 = .ok (.goto 11, 3) := by decide +kernel
theorem dX8_lineOf_55 : decode cX8_lineOf 55 = .ok (.aload_n 0, 1) := by decide +kernel
theorem dX8_lineOf_56 : decode cX8_lineOf 56 = .ok (.iload_n 1, 1) := by decide +kernel
theorem dX8_lineOf_57 : decode cX8_lineOf 57 = .ok (.iload_n 2, 1) := by decide +kernel
theorem dX8_lineOf_58 : decode cX8_lineOf 58 = .ok (.iconst 4, 1) := by decide +kernel
theorem dX8_lineOf_59 : decode cX8_lineOf 59 = .ok (.isub, 1) := by decide +kernel
theorem dX8_lineOf_60 : decode cX8_lineOf 60 = .ok (.invokevirtual 129, 3) := by decide +kernel
theorem dX8_lineOf_63 : decode cX8_lineOf 63 = .ok (.ireturn, 1) := by decide +kernel
theorem dX8_determinant_0 : decode cX8_determinant 0 = .ok (.aload_n 0, 1) := by decide +kernel
theorem dX8_determinant_1 : decode cX8_determinant 1 = .ok (.getfield 33, 3) := by decide +kernel
theorem dX8_determinant_4 : decode cX8_determinant 4 = .ok (.iconst 0, 1) := by decide +kernel
theorem dX8_determinant_5 : decode cX8_determinant 5 = .ok (.lconst 1, 1) := by decide +kernel
theorem dX8_determinant_6 : decode cX8_determinant 6 = .ok (.lastore, 1) := by decide +kernel
theorem dX8_determinant_7 : decode cX8_determinant 7 = .ok (.iconst 1, 1) := by decide +kernel
theorem dX8_determinant_8 : decode cX8_determinant 8 = .ok (.istore_n 1, 1) := by decide +kernel
theorem dX8_determinant_9 : decode cX8_determinant 9 = .ok (.iload_n 1, 1) := by decide +kernel
theorem dX8_determinant_10 : decode cX8_determinant 10 = .ok (.iconst 1, 1) := by decide +kernel
theorem dX8_determinant_11 : decode cX8_determinant 11 = .ok (.aload_n 0, 1) := by decide +kernel
theorem dX8_determinant_12 : decode cX8_determinant 12 = .ok (.getfield 132, 3) := by decide +kernel
theorem dX8_determinant_15 : decode cX8_determinant 15 = .ok (.ishl, 1) := by decide +kernel
theorem dX8_determinant_16 : decode cX8_determinant 16 = .ok (.if_icmp .ge 131, 3) := by decide +kernel
theorem dX8_determinant_19 : decode cX8_determinant 19 = .ok (.iconst (-1), 1) := by decide +kernel
theorem dX8_determinant_20 : decode cX8_determinant 20 = .ok (.istore_n 2, 1) := by decide +kernel
theorem dX8_determinant_21 : decode cX8_determinant 21 = .ok (.iconst 0, 1) := by decide +kernel
theorem dX8_determinant_22 : decode cX8_determinant 22 = .ok (.istore_n 3, 1) := by decide +kernel
theorem dX8_determinant_23 : decode cX8_determinant 23 = .ok (.iload_n 3, 1) := by decide +kernel
theorem dX8_determinant_24 : decode cX8_determinant 24 = .ok (.aload_n 0, 1) := by decide +kernel
theorem dX8_determinant_25 : decode cX8_determinant 25 = .ok (.getfield 132, 3) := by decide +kernel
theorem dX8_determinant_28 : decode cX8_determinant 28 = .ok (.if_icmp .ge 25, 3) := by decide +kernel
theorem dX8_determinant_31 : decode cX8_determinant 31 = .ok (.iload_n 2, 1) := by decide +kernel
theorem dX8_determinant_32 : decode cX8_determinant 32 = .ok (.iload_n 1, 1) := by decide +kernel
theorem dX8_determinant_33 : decode cX8_determinant 33 = .ok (.iload_n 3, 1) := by decide +kernel
theorem dX8_determinant_34 : decode cX8_determinant 34 = .ok (.invokestatic 135, 3) := by decide +kernel
theorem dX8_determinant_37 : decode cX8_determinant 37 = .ok (.ifCond .eq 7, 3) := by decide +kernel
theorem dX8_determinant_40 : decode cX8_determinant 40 = .ok (.iconst 1, 1) := by decide +kernel
theorem dX8_determinant_41 : decode cX8_determinant 41 = .ok (.goto 4, 3) := by decide +kernel
theorem dX8_determinant_44 : decode cX8_determinant 44 = .ok (.iconst 0, 1) := by decide +kernel
theorem dX8_determinant_45 : decode cX8_determinant 45 = .ok (.iadd, 1) := by decide +kernel
theorem dX8_determinant_46 : decode cX8_determinant 46 = .ok (.istore_n 2, 1) := by decide +kernel
theorem dX8_determinant_47 : decode cX8_determinant 47 = .ok (.iinc 3 1, 3) := by decide +kernel
theorem dX8_determinant_50 : decode cX8_determinant 50 = .ok (.goto (-27), 3) := by decide +kernel
theorem dX8_determinant_53 : decode cX8_determinant 53 = .ok (.lconst 0, 1) := by decide +kernel
theorem dX8_determinant_54 : decode cX8_determinant 54 = .ok (.lstore_n 3, 1) := by decide +kernel
theorem dX8_determinant_55 : decode cX8_determinant 55 = .ok (.iload_n 2, 1) := by decide +kernel
theorem dX8_determinant_56 : decode cX8_determinant 56 = .ok (.istore 5, 2) := by decide +kernel
theorem dX8_determinant_58 : decode cX8_determinant 58 = .ok (.iconst 0, 1) := by decide +kernel
theorem dX8_determinant_59 : decode cX8_determinant 59 = .ok (.istore 6, 2) := by decide +kernel
theorem dX8_determinant_61 : decode cX8_determinant 61 = .ok (.iload 6, 2) := by decide +kernel
theorem dX8_determinant_63 : decode cX8_determinant 63 = .ok (.aload_n 0, 1) := by decide +kernel
theorem dX8_determinant_64 : decode cX8_determinant 64 = .ok (.getfield 132, 3) := by decide +kernel
theorem dX8_determinant_67 : decode cX8_determinant 67 = .ok (.if_icmp .ge 67, 3) := by decide +kernel
theorem dX8_determinant_70 : decode cX8_determinant 70 = .ok (.iload_n 1, 1) := by decide +kernel
theorem dX8_determinant_71 : decode cX8_determinant 71 = .ok (.iload 6, 2) := by decide +kernel
theorem dX8_determinant_73 : decode cX8_determinant 73 = .ok (.invokestatic 135, 3) := by decide +kernel
theorem dX8_determinant_76 : decode cX8_determinant 76 = .ok (.ifCond .eq 52, 3) := by decide +kernel
theorem dX8_determinant_79 : decode cX8_determinant 79 = .ok (.aload_n 0, 1) := by decide +kernel
theorem dX8_determinant_80 : decode cX8_determinant 80 = .ok (.getfield 29, 3) := by decide +kernel
theorem dX8_determinant_83 : decode cX8_determinant 83 = .ok (.bipush 6, 2) := by decide +kernel
theorem dX8_determinant_85 : decode cX8_determinant 85 = .ok (.iload_n 2, 1) := by decide +kernel
theorem dX8_determinant_86 : decode cX8_determinant 86 = .ok (.imul, 1) := by decide +kernel
theorem dX8_determinant_87 : decode cX8_determinant 87 = .ok (.iload 6, 2) := by decide +kernel
theorem dX8_determinant_89 : decode cX8_determinant 89 = .ok (.iadd, 1) := by decide +kernel
theorem dX8_determinant_90 : decode cX8_determinant 90 = .ok (.laload, 1) := by decide +kernel
theorem dX8_determinant_91 : decode cX8_determinant 91 = .ok (.aload_n 0, 1) := by decide +kernel
theorem dX8_determinant_92 : decode cX8_determinant 92 = .ok (.getfield 33, 3) := by decide +kernel
theorem dX8_determinant_95 : decode cX8_determinant 95 = .ok (.iload_n 1, 1) := by decide +kernel
theorem dX8_determinant_96 : decode cX8_determinant 96 = .ok (.iconst 1, 1) := by decide +kernel
theorem dX8_determinant_97 : decode cX8_determinant 97 = .ok (.iload 6, 2) := by decide +kernel
theorem dX8_determinant_99 : decode cX8_determinant 99 = .ok (.ishl, 1) := by decide +kernel
theorem dX8_determinant_100 : decode cX8_determinant 100 = .ok (.iconst (-1), 1) := by decide +kernel
theorem dX8_determinant_101 : decode cX8_determinant 101 = .ok (.ixor, 1) := by decide +kernel
theorem dX8_determinant_102 : decode cX8_determinant 102 = .ok (.iand, 1) := by decide +kernel
theorem dX8_determinant_103 : decode cX8_determinant 103 = .ok (.laload, 1) := by decide +kernel
theorem dX8_determinant_104 : decode cX8_determinant 104 = .ok (.lmul, 1) := by decide +kernel
theorem dX8_determinant_105 : decode cX8_determinant 105 = .ok (.lstore 7, 2) := by decide +kernel
theorem dX8_determinant_107 : decode cX8_determinant 107 = .ok (.lload_n 3, 1) := by decide +kernel
theorem dX8_determinant_108 : decode cX8_determinant 108 = .ok (.iload 5, 2) := by decide +kernel
theorem dX8_determinant_110 : decode cX8_determinant 110 = .ok (.iconst 2, 1) := by decide +kernel
theorem dX8_determinant_111 : decode cX8_determinant 111 = .ok (.irem, 1) := by decide +kernel
theorem dX8_determinant_112 : decode cX8_determinant 112 = .ok (.ifCond .ne 8, 3) := by decide +kernel
theorem dX8_determinant_115 : decode cX8_determinant 115 = .ok (.lload 7, 2) := by decide +kernel
theorem dX8_determinant_117 : decode cX8_determinant 117 = .ok (.goto 6, 3) := by decide +kernel
theorem dX8_determinant_120 : decode cX8_determinant 120 = .ok (.lload 7, 2) := by decide +kernel
theorem dX8_determinant_122 : decode cX8_determinant 122 = .ok (.lneg, 1) := by decide +kernel
theorem dX8_determinant_123 : decode cX8_determinant 123 = .ok (.ladd, 1) := by decide +kernel
theorem dX8_determinant_124 : decode cX8_determinant 124 = .ok (.lstore_n 3, 1) := by decide +kernel
theorem dX8_determinant_125 : decode cX8_determinant 125 = .ok (.iinc 5 (-1), 3) := by decide +kernel
theorem dX8_determinant_128 : decode cX8_determinant 128 = .ok (.iinc 6 1, 3) := by decide +kernel
theorem dX8_determinant_131 : decode cX8_determinant 131 = .ok (.goto (-70), 3) := by decide +kernel
theorem dX8_determinant_134 : decode cX8_determinant 134 = .ok (.aload_n 0, 1) := by decide +kernel
theorem dX8_determinant_135 : decode cX8_determinant 135 = .ok (.getfield 33, 3) := by decide +kernel
theorem dX8_determinant_138 : decode cX8_determinant 138 = .ok (.iload_n 1, 1) := by decide +kernel
theorem dX8_determinant_139 : decode cX8_determinant 139 = .ok (.lload_n 3, 1) := by decide +kernel
theorem dX8_determinant_140 : decode cX8_determinant 140 = .ok (.lastore, 1) := by decide +kernel
theorem dX8_determinant_141 : decode cX8_determinant 141 = .ok (.iinc 1 1, 3) := by decide +kernel
theorem dX8_determinant_144 : decode cX8_determinant 144 = .ok (.goto (-135), 3) := by decide +kernel
theorem dX8_determinant_147 : decode cX8_determinant 147 = .ok (.aload_n 0, 1) := by decide +kernel
theorem dX8_determinant_148 : decode cX8_determinant 148 = .ok (.getfield 33, 3) := by decide +kernel
theorem dX8_determinant_151 : decode cX8_determinant 151 = .ok (.iconst 1, 1) := by decide +kernel
theorem dX8_determinant_152 : decode cX8_determinant 152 = .ok (.aload_n 0, 1) := by decide +kernel
theorem dX8_determinant_153 : decode cX8_determinant 153 = .ok (.getfield 132, 3) := by decide +kernel
theorem dX8_determinant_156 : decode cX8_determinant 156 = .ok (.ishl, 1) := by decide +kernel
theorem dX8_determinant_157 : decode cX8_determinant 157 = .ok (.iconst 1, 1) := by decide +kernel
theorem dX8_determinant_158 : decode cX8_determinant 158 = .ok (.isub, 1) := by decide +kernel
theorem dX8_determinant_159 : decode cX8_determinant 159 = .ok (.laload, 1) := by decide +kernel
theorem dX8_determinant_160 : decode cX8_determinant 160 = .ok (.lreturn, 1) := by decide +kernel
theorem dX8_minorOf_0 : decode cX8_minorOf 0 = .ok (.aload_n 0, 1) := by decide +kernel
theorem dX8_minorOf_1 : decode cX8_minorOf 1 = .ok (.iload_n 1, 1) := by decide +kernel
theorem dX8_minorOf_2 : decode cX8_minorOf 2 = .ok (.putfield 132, 3) := by decide +kernel
theorem dX8_minorOf_5 : decode cX8_minorOf 5 = .ok (.iconst 0, 1) := by decide +kernel
theorem dX8_minorOf_6 : decode cX8_minorOf 6 = .ok (.istore_n 2, 1) := by decide +kernel
theorem dX8_minorOf_7 : decode cX8_minorOf 7 = .ok (.iload_n 2, 1) := by decide +kernel
theorem dX8_minorOf_8 : decode cX8_minorOf 8 = .ok (.iload_n 1, 1) := by decide +kernel
theorem dX8_minorOf_9 : decode cX8_minorOf 9 = .ok (.if_icmp .ge 44, 3) := by decide +kernel
theorem dX8_minorOf_12 : decode cX8_minorOf 12 = .ok (.iconst 0, 1) := by decide +kernel
theorem dX8_minorOf_13 : decode cX8_minorOf 13 = .ok (.istore_n 3, 1) := by decide +kernel
theorem dX8_minorOf_14 : decode cX8_minorOf 14 = .ok (.iload_n 3, 1) := by decide +kernel
theorem dX8_minorOf_15 : decode cX8_minorOf 15 = .ok (.iload_n 1, 1) := by decide +kernel
theorem dX8_minorOf_16 : decode cX8_minorOf 16 = .ok (.if_icmp .ge 31, 3) := by decide +kernel
theorem dX8_minorOf_19 : decode cX8_minorOf 19 = .ok (.aload_n 0, 1) := by decide +kernel
theorem dX8_minorOf_20 : decode cX8_minorOf 20 = .ok (.getfield 29, 3) := by decide +kernel
theorem dX8_minorOf_23 : decode cX8_minorOf 23 = .ok (.bipush 6, 2) := by decide +kernel
theorem dX8_minorOf_25 : decode cX8_minorOf 25 = .ok (.iload_n 2, 1) := by decide +kernel
theorem dX8_minorOf_26 : decode cX8_minorOf 26 = .ok (.imul, 1) := by decide +kernel
theorem dX8_minorOf_27 : decode cX8_minorOf 27 = .ok (.iload_n 3, 1) := by decide +kernel
theorem dX8_minorOf_28 : decode cX8_minorOf 28 = .ok (.iadd, 1) := by decide +kernel
theorem dX8_minorOf_29 : decode cX8_minorOf 29 = .ok (.aload_n 0, 1) := by decide +kernel
theorem dX8_minorOf_30 : decode cX8_minorOf 30 = .ok (.getfield 13, 3) := by decide +kernel
theorem dX8_minorOf_33 : decode cX8_minorOf 33 = .ok (.iconst 3, 1) := by decide +kernel
theorem dX8_minorOf_34 : decode cX8_minorOf 34 = .ok (.iload_n 2, 1) := by decide +kernel
theorem dX8_minorOf_35 : decode cX8_minorOf 35 = .ok (.imul, 1) := by decide +kernel
theorem dX8_minorOf_36 : decode cX8_minorOf 36 = .ok (.iload_n 3, 1) := by decide +kernel
theorem dX8_minorOf_37 : decode cX8_minorOf 37 = .ok (.iadd, 1) := by decide +kernel
theorem dX8_minorOf_38 : decode cX8_minorOf 38 = .ok (.iaload, 1) := by decide +kernel
theorem dX8_minorOf_39 : decode cX8_minorOf 39 = .ok (.i2l, 1) := by decide +kernel
theorem dX8_minorOf_40 : decode cX8_minorOf 40 = .ok (.lastore, 1) := by decide +kernel
theorem dX8_minorOf_41 : decode cX8_minorOf 41 = .ok (.iinc 3 1, 3) := by decide +kernel
theorem dX8_minorOf_44 : decode cX8_minorOf 44 = .ok (.goto (-30), 3) := by decide +kernel
theorem dX8_minorOf_47 : decode cX8_minorOf 47 = .ok (.iinc 2 1, 3) := by decide +kernel
theorem dX8_minorOf_50 : decode cX8_minorOf 50 = .ok (.goto (-43), 3) := by decide +kernel
theorem dX8_minorOf_53 : decode cX8_minorOf 53 = .ok (.aload_n 0, 1) := by decide +kernel
theorem dX8_minorOf_54 : decode cX8_minorOf 54 = .ok (.invokevirtual 139, 3) := by decide +kernel
theorem dX8_minorOf_57 : decode cX8_minorOf 57 = .ok (.l2i, 1) := by decide +kernel
theorem dX8_minorOf_58 : decode cX8_minorOf 58 = .ok (.ireturn, 1) := by decide +kernel
theorem dX8_minor_0 : decode cX8_minor 0 = .ok (.iload_n 1, 1) := by decide +kernel
theorem dX8_minor_1 : decode cX8_minor 1 = .ok (.i2l, 1) := by decide +kernel
theorem dX8_minor_2 : decode cX8_minor 2 = .ok (.lconst 1, 1) := by decide +kernel
theorem dX8_minor_3 : decode cX8_minor 3 = .ok (.aload_n 0, 1) := by decide +kernel
theorem dX8_minor_4 : decode cX8_minor 4 = .ok (.getfield 7, 3) := by decide +kernel
theorem dX8_minor_7 : decode cX8_minor 7 = .ok (.i2l, 1) := by decide +kernel
theorem dX8_minor_8 : decode cX8_minor 8 = .ok (.invokestatic 84, 3) := by decide +kernel
theorem dX8_minor_11 : decode cX8_minor 11 = .ok (.ifCond .eq 11, 3) := by decide +kernel
theorem dX8_minor_14 : decode cX8_minor 14 = .ok (.aload_n 0, 1) := by decide +kernel
theorem dX8_minor_15 : decode cX8_minor 15 = .ok (.iload_n 1, 1) := by decide +kernel
theorem dX8_minor_16 : decode cX8_minor 16 = .ok (.invokevirtual 143, 3) := by decide +kernel
theorem dX8_minor_19 : decode cX8_minor 19 = .ok (.goto 5, 3) := by decide +kernel
theorem dX8_minor_22 : decode cX8_minor 22 = .ok (.bipush (-2), 2) := by decide +kernel
theorem dX8_minor_24 : decode cX8_minor 24 = .ok (.ireturn, 1) := by decide +kernel
theorem dX8_proper_0 : decode cX8_proper 0 = .ok (.iconst 1, 1) := by decide +kernel
theorem dX8_proper_1 : decode cX8_proper 1 = .ok (.istore_n 1, 1) := by decide +kernel
theorem dX8_proper_2 : decode cX8_proper 2 = .ok (.iconst 1, 1) := by decide +kernel
theorem dX8_proper_3 : decode cX8_proper 3 = .ok (.istore_n 2, 1) := by decide +kernel
theorem dX8_proper_4 : decode cX8_proper 4 = .ok (.iload_n 2, 1) := by decide +kernel
theorem dX8_proper_5 : decode cX8_proper 5 = .ok (.aload_n 0, 1) := by decide +kernel
theorem dX8_proper_6 : decode cX8_proper 6 = .ok (.getfield 7, 3) := by decide +kernel
theorem dX8_proper_9 : decode cX8_proper 9 = .ok (.if_icmp .gt 25, 3) := by decide +kernel
theorem dX8_proper_12 : decode cX8_proper 12 = .ok (.iload_n 1, 1) := by decide +kernel
theorem dX8_proper_13 : decode cX8_proper 13 = .ok (.aload_n 0, 1) := by decide +kernel
theorem dX8_proper_14 : decode cX8_proper 14 = .ok (.iload_n 2, 1) := by decide +kernel
theorem dX8_proper_15 : decode cX8_proper 15 = .ok (.invokevirtual 143, 3) := by decide +kernel
theorem dX8_proper_18 : decode cX8_proper 18 = .ok (.ifCond .le 7, 3) := by decide +kernel
theorem dX8_proper_21 : decode cX8_proper 21 = .ok (.iconst 1, 1) := by decide +kernel
theorem dX8_proper_22 : decode cX8_proper 22 = .ok (.goto 4, 3) := by decide +kernel
theorem dX8_proper_25 : decode cX8_proper 25 = .ok (.iconst 0, 1) := by decide +kernel
theorem dX8_proper_26 : decode cX8_proper 26 = .ok (.iand, 1) := by decide +kernel
theorem dX8_proper_27 : decode cX8_proper 27 = .ok (.istore_n 1, 1) := by decide +kernel
theorem dX8_proper_28 : decode cX8_proper 28 = .ok (.iinc 2 1, 3) := by decide +kernel
theorem dX8_proper_31 : decode cX8_proper 31 = .ok (.goto (-27), 3) := by decide +kernel
theorem dX8_proper_34 : decode cX8_proper 34 = .ok (.iload_n 1, 1) := by decide +kernel
theorem dX8_proper_35 : decode cX8_proper 35 = .ok (.ireturn, 1) := by decide +kernel
theorem dX8_isProper_0 : decode cX8_isProper 0 = .ok (.aload_n 0, 1) := by decide +kernel
theorem dX8_isProper_1 : decode cX8_isProper 1 = .ok (.invokevirtual 146, 3) := by decide +kernel
theorem dX8_isProper_4 : decode cX8_isProper 4 = .ok (.ifCond .eq 7, 3) := by decide +kernel
theorem dX8_isProper_7 : decode cX8_isProper 7 = .ok (.iconst 1, 1) := by decide +kernel
theorem dX8_isProper_8 : decode cX8_isProper 8 = .ok (.goto 4, 3) := by decide +kernel
theorem dX8_isProper_11 : decode cX8_isProper 11 = .ok (.iconst 0, 1) := by decide +kernel
theorem dX8_isProper_12 : decode cX8_isProper 12 = .ok (.ireturn, 1) := by decide +kernel
theorem dX8_laysCells_0 : decode cX8_laysCells 0 = .ok (.aload_n 0, 1) := by decide +kernel
theorem dX8_laysCells_1 : decode cX8_laysCells 1 = .ok (.aload_n 0, 1) := by decide +kernel
theorem dX8_laysCells_2 : decode cX8_laysCells 2 = .ok (.getfield 7, 3) := by decide +kernel
theorem dX8_laysCells_5 : decode cX8_laysCells 5 = .ok (.iload_n 1, 1) := by decide +kernel
theorem dX8_laysCells_6 : decode cX8_laysCells 6 = .ok (.iadd, 1) := by decide +kernel
theorem dX8_laysCells_7 : decode cX8_laysCells 7 = .ok (.putfield 132, 3) := by decide +kernel
theorem dX8_laysCells_10 : decode cX8_laysCells 10 = .ok (.iconst 0, 1) := by decide +kernel
theorem dX8_laysCells_11 : decode cX8_laysCells 11 = .ok (.istore_n 2, 1) := by decide +kernel
theorem dX8_laysCells_12 : decode cX8_laysCells 12 = .ok (.iload_n 2, 1) := by decide +kernel
theorem dX8_laysCells_13 : decode cX8_laysCells 13 = .ok (.aload_n 0, 1) := by decide +kernel
theorem dX8_laysCells_14 : decode cX8_laysCells 14 = .ok (.getfield 132, 3) := by decide +kernel
theorem dX8_laysCells_17 : decode cX8_laysCells 17 = .ok (.if_icmp .ge 123, 3) := by decide +kernel
theorem dX8_laysCells_20 : decode cX8_laysCells 20 = .ok (.iconst 0, 1) := by decide +kernel
theorem dX8_laysCells_21 : decode cX8_laysCells 21 = .ok (.istore_n 3, 1) := by decide +kernel
theorem dX8_laysCells_22 : decode cX8_laysCells 22 = .ok (.iload_n 3, 1) := by decide +kernel
theorem dX8_laysCells_23 : decode cX8_laysCells 23 = .ok (.aload_n 0, 1) := by decide +kernel
theorem dX8_laysCells_24 : decode cX8_laysCells 24 = .ok (.getfield 132, 3) := by decide +kernel
theorem dX8_laysCells_27 : decode cX8_laysCells 27 = .ok (.if_icmp .ge 107, 3) := by decide +kernel
theorem dX8_laysCells_30 : decode cX8_laysCells 30 = .ok (.aload_n 0, 1) := by decide +kernel
theorem dX8_laysCells_31 : decode cX8_laysCells 31 = .ok (.getfield 29, 3) := by decide +kernel
theorem dX8_laysCells_34 : decode cX8_laysCells 34 = .ok (.bipush 6, 2) := by decide +kernel
theorem dX8_laysCells_36 : decode cX8_laysCells 36 = .ok (.iload_n 2, 1) := by decide +kernel
theorem dX8_laysCells_37 : decode cX8_laysCells 37 = .ok (.imul, 1) := by decide +kernel
theorem dX8_laysCells_38 : decode cX8_laysCells 38 = .ok (.iload_n 3, 1) := by decide +kernel
theorem dX8_laysCells_39 : decode cX8_laysCells 39 = .ok (.iadd, 1) := by decide +kernel
theorem dX8_laysCells_40 : decode cX8_laysCells 40 = .ok (.iload_n 2, 1) := by decide +kernel
theorem dX8_laysCells_41 : decode cX8_laysCells 41 = .ok (.aload_n 0, 1) := by decide +kernel
theorem dX8_laysCells_42 : decode cX8_laysCells 42 = .ok (.getfield 7, 3) := by decide +kernel
theorem dX8_laysCells_45 : decode cX8_laysCells 45 = .ok (.if_icmp .ge 25, 3) := by decide +kernel
theorem dX8_laysCells_48 : decode cX8_laysCells 48 = .ok (.iload_n 3, 1) := by decide +kernel
theorem dX8_laysCells_49 : decode cX8_laysCells 49 = .ok (.aload_n 0, 1) := by decide +kernel
theorem dX8_laysCells_50 : decode cX8_laysCells 50 = .ok (.getfield 7, 3) := by decide +kernel
theorem dX8_laysCells_53 : decode cX8_laysCells 53 = .ok (.if_icmp .ge 17, 3) := by decide +kernel
theorem dX8_laysCells_56 : decode cX8_laysCells 56 = .ok (.aload_n 0, 1) := by decide +kernel
theorem dX8_laysCells_57 : decode cX8_laysCells 57 = .ok (.getfield 13, 3) := by decide +kernel
theorem dX8_laysCells_60 : decode cX8_laysCells 60 = .ok (.iconst 3, 1) := by decide +kernel
theorem dX8_laysCells_61 : decode cX8_laysCells 61 = .ok (.iload_n 2, 1) := by decide +kernel
theorem dX8_laysCells_62 : decode cX8_laysCells 62 = .ok (.imul, 1) := by decide +kernel
theorem dX8_laysCells_63 : decode cX8_laysCells 63 = .ok (.iload_n 3, 1) := by decide +kernel
theorem dX8_laysCells_64 : decode cX8_laysCells 64 = .ok (.iadd, 1) := by decide +kernel
theorem dX8_laysCells_65 : decode cX8_laysCells 65 = .ok (.iaload, 1) := by decide +kernel
theorem dX8_laysCells_66 : decode cX8_laysCells 66 = .ok (.i2l, 1) := by decide +kernel
theorem dX8_laysCells_67 : decode cX8_laysCells 67 = .ok (.goto 60, 3) := by decide +kernel
theorem dX8_laysCells_70 : decode cX8_laysCells 70 = .ok (.iload_n 2, 1) := by decide +kernel
theorem dX8_laysCells_71 : decode cX8_laysCells 71 = .ok (.aload_n 0, 1) := by decide +kernel
theorem dX8_laysCells_72 : decode cX8_laysCells 72 = .ok (.getfield 7, 3) := by decide +kernel
theorem dX8_laysCells_75 : decode cX8_laysCells 75 = .ok (.if_icmp .ge 23, 3) := by decide +kernel
theorem dX8_laysCells_78 : decode cX8_laysCells 78 = .ok (.aload_n 0, 1) := by decide +kernel
theorem dX8_laysCells_79 : decode cX8_laysCells 79 = .ok (.aload_n 0, 1) := by decide +kernel
theorem dX8_laysCells_80 : decode cX8_laysCells 80 = .ok (.getfield 48, 3) := by decide +kernel
theorem dX8_laysCells_83 : decode cX8_laysCells 83 = .ok (.iload_n 3, 1) := by decide +kernel
theorem dX8_laysCells_84 : decode cX8_laysCells 84 = .ok (.aload_n 0, 1) := by decide +kernel
theorem dX8_laysCells_85 : decode cX8_laysCells 85 = .ok (.getfield 7, 3) := by decide +kernel
theorem dX8_laysCells_88 : decode cX8_laysCells 88 = .ok (.isub, 1) := by decide +kernel
theorem dX8_laysCells_89 : decode cX8_laysCells 89 = .ok (.iaload, 1) := by decide +kernel
theorem dX8_laysCells_90 : decode cX8_laysCells 90 = .ok (.iload_n 2, 1) := by decide +kernel
theorem dX8_laysCells_91 : decode cX8_laysCells 91 = .ok (.invokevirtual 129, 3) := by decide +kernel
theorem dX8_laysCells_94 : decode cX8_laysCells 94 = .ok (.i2l, 1) := by decide +kernel
theorem dX8_laysCells_95 : decode cX8_laysCells 95 = .ok (.goto 32, 3) := by decide +kernel
theorem dX8_laysCells_98 : decode cX8_laysCells 98 = .ok (.iload_n 3, 1) := by decide +kernel
theorem dX8_laysCells_99 : decode cX8_laysCells 99 = .ok (.aload_n 0, 1) := by decide +kernel
theorem dX8_laysCells_100 : decode cX8_laysCells 100 = .ok (.getfield 7, 3) := by decide +kernel
theorem dX8_laysCells_103 : decode cX8_laysCells 103 = .ok (.if_icmp .ge 23, 3) := by decide +kernel
theorem dX8_laysCells_106 : decode cX8_laysCells 106 = .ok (.aload_n 0, 1) := by decide +kernel
theorem dX8_laysCells_107 : decode cX8_laysCells 107 = .ok (.aload_n 0, 1) := by decide +kernel
theorem dX8_laysCells_108 : decode cX8_laysCells 108 = .ok (.getfield 48, 3) := by decide +kernel
theorem dX8_laysCells_111 : decode cX8_laysCells 111 = .ok (.iload_n 2, 1) := by decide +kernel
theorem dX8_laysCells_112 : decode cX8_laysCells 112 = .ok (.aload_n 0, 1) := by decide +kernel
theorem dX8_laysCells_113 : decode cX8_laysCells 113 = .ok (.getfield 7, 3) := by decide +kernel
theorem dX8_laysCells_116 : decode cX8_laysCells 116 = .ok (.isub, 1) := by decide +kernel
theorem dX8_laysCells_117 : decode cX8_laysCells 117 = .ok (.iaload, 1) := by decide +kernel
theorem dX8_laysCells_118 : decode cX8_laysCells 118 = .ok (.iload_n 3, 1) := by decide +kernel
theorem dX8_laysCells_119 : decode cX8_laysCells 119 = .ok (.invokevirtual 129, 3) := by decide +kernel
theorem dX8_laysCells_122 : decode cX8_laysCells 122 = .ok (.i2l, 1) := by decide +kernel
theorem dX8_laysCells_123 : decode cX8_laysCells 123 = .ok (.goto 4, 3) := by decide +kernel
theorem dX8_laysCells_126 : decode cX8_laysCells 126 = .ok (.lconst 0, 1) := by decide +kernel
theorem dX8_laysCells_127 : decode cX8_laysCells 127 = .ok (.lastore, 1) := by decide +kernel
theorem dX8_laysCells_128 : decode cX8_laysCells 128 = .ok (.iinc 3 1, 3) := by decide +kernel
theorem dX8_laysCells_131 : decode cX8_laysCells 131 = .ok (.goto (-109), 3) := by decide +kernel
theorem dX8_laysCells_134 : decode cX8_laysCells 134 = .ok (.iinc 2 1, 3) := by decide +kernel
theorem dX8_laysCells_137 : decode cX8_laysCells 137 = .ok (.goto (-125), 3) := by decide +kernel
theorem dX8_laysCells_140 : decode cX8_laysCells 140 = .ok (.return_, 1) := by decide +kernel
theorem dX8_instead_0 : decode cX8_instead 0 = .ok (.iconst 0, 1) := by decide +kernel
theorem dX8_instead_1 : decode cX8_instead 1 = .ok (.istore_n 2, 1) := by decide +kernel
theorem dX8_instead_2 : decode cX8_instead 2 = .ok (.iload_n 2, 1) := by decide +kernel
theorem dX8_instead_3 : decode cX8_instead 3 = .ok (.aload_n 0, 1) := by decide +kernel
theorem dX8_instead_4 : decode cX8_instead 4 = .ok (.getfield 132, 3) := by decide +kernel
theorem dX8_instead_7 : decode cX8_instead 7 = .ok (.if_icmp .ge 45, 3) := by decide +kernel
theorem dX8_instead_10 : decode cX8_instead 10 = .ok (.aload_n 0, 1) := by decide +kernel
theorem dX8_instead_11 : decode cX8_instead 11 = .ok (.getfield 29, 3) := by decide +kernel
theorem dX8_instead_14 : decode cX8_instead 14 = .ok (.bipush 6, 2) := by decide +kernel
theorem dX8_instead_16 : decode cX8_instead 16 = .ok (.iload_n 2, 1) := by decide +kernel
theorem dX8_instead_17 : decode cX8_instead 17 = .ok (.imul, 1) := by decide +kernel
theorem dX8_instead_18 : decode cX8_instead 18 = .ok (.iload_n 1, 1) := by decide +kernel
theorem dX8_instead_19 : decode cX8_instead 19 = .ok (.iadd, 1) := by decide +kernel
theorem dX8_instead_20 : decode cX8_instead 20 = .ok (.laload, 1) := by decide +kernel
theorem dX8_instead_21 : decode cX8_instead 21 = .ok (.lstore_n 3, 1) := by decide +kernel
theorem dX8_instead_22 : decode cX8_instead 22 = .ok (.aload_n 0, 1) := by decide +kernel
theorem dX8_instead_23 : decode cX8_instead 23 = .ok (.getfield 29, 3) := by decide +kernel
theorem dX8_instead_26 : decode cX8_instead 26 = .ok (.bipush 6, 2) := by decide +kernel
theorem dX8_instead_28 : decode cX8_instead 28 = .ok (.iload_n 2, 1) := by decide +kernel
theorem dX8_instead_29 : decode cX8_instead 29 = .ok (.imul, 1) := by decide +kernel
theorem dX8_instead_30 : decode cX8_instead 30 = .ok (.iload_n 1, 1) := by decide +kernel
theorem dX8_instead_31 : decode cX8_instead 31 = .ok (.iadd, 1) := by decide +kernel
theorem dX8_instead_32 : decode cX8_instead 32 = .ok (.aload_n 0, 1) := by decide +kernel
theorem dX8_instead_33 : decode cX8_instead 33 = .ok (.getfield 51, 3) := by decide +kernel
theorem dX8_instead_36 : decode cX8_instead 36 = .ok (.iload_n 2, 1) := by decide +kernel
theorem dX8_instead_37 : decode cX8_instead 37 = .ok (.laload, 1) := by decide +kernel
theorem dX8_instead_38 : decode cX8_instead 38 = .ok (.lastore, 1) := by decide +kernel
theorem dX8_instead_39 : decode cX8_instead 39 = .ok (.aload_n 0, 1) := by decide +kernel
theorem dX8_instead_40 : decode cX8_instead 40 = .ok (.getfield 51, 3) := by decide +kernel
theorem dX8_instead_43 : decode cX8_instead 43 = .ok (.iload_n 2, 1) := by decide +kernel
theorem dX8_instead_44 : decode cX8_instead 44 = .ok (.lload_n 3, 1) := by decide +kernel
theorem dX8_instead_45 : decode cX8_instead 45 = .ok (.lastore, 1) := by decide +kernel
theorem dX8_instead_46 : decode cX8_instead 46 = .ok (.iinc 2 1, 3) := by decide +kernel
theorem dX8_instead_49 : decode cX8_instead 49 = .ok (.goto (-47), 3) := by decide +kernel
theorem dX8_instead_52 : decode cX8_instead 52 = .ok (.aload_n 0, 1) := by decide +kernel
theorem dX8_instead_53 : decode cX8_instead 53 = .ok (.invokevirtual 139, 3) := by decide +kernel
theorem dX8_instead_56 : decode cX8_instead 56 = .ok (.lstore_n 2, 1) := by decide +kernel
theorem dX8_instead_57 : decode cX8_instead 57 = .ok (.iconst 0, 1) := by decide +kernel
theorem dX8_instead_58 : decode cX8_instead 58 = .ok (.istore 4, 2) := by decide +kernel
theorem dX8_instead_60 : decode cX8_instead 60 = .ok (.iload 4, 2) := by decide +kernel
theorem dX8_instead_62 : decode cX8_instead 62 = .ok (.aload_n 0, 1) := by decide +kernel
theorem dX8_instead_63 : decode cX8_instead 63 = .ok (.getfield 132, 3) := by decide +kernel
theorem dX8_instead_66 : decode cX8_instead 66 = .ok (.if_icmp .ge 51, 3) := by decide +kernel
theorem dX8_instead_69 : decode cX8_instead 69 = .ok (.aload_n 0, 1) := by decide +kernel
theorem dX8_instead_70 : decode cX8_instead 70 = .ok (.getfield 29, 3) := by decide +kernel
theorem dX8_instead_73 : decode cX8_instead 73 = .ok (.bipush 6, 2) := by decide +kernel
theorem dX8_instead_75 : decode cX8_instead 75 = .ok (.iload 4, 2) := by decide +kernel
theorem dX8_instead_77 : decode cX8_instead 77 = .ok (.imul, 1) := by decide +kernel
theorem dX8_instead_78 : decode cX8_instead 78 = .ok (.iload_n 1, 1) := by decide +kernel
theorem dX8_instead_79 : decode cX8_instead 79 = .ok (.iadd, 1) := by decide +kernel
theorem dX8_instead_80 : decode cX8_instead 80 = .ok (.laload, 1) := by decide +kernel
theorem dX8_instead_81 : decode cX8_instead 81 = .ok (.lstore 5, 2) := by decide +kernel
theorem dX8_instead_83 : decode cX8_instead 83 = .ok (.aload_n 0, 1) := by decide +kernel
theorem dX8_instead_84 : decode cX8_instead 84 = .ok (.getfield 29, 3) := by decide +kernel
theorem dX8_instead_87 : decode cX8_instead 87 = .ok (.bipush 6, 2) := by decide +kernel
theorem dX8_instead_89 : decode cX8_instead 89 = .ok (.iload 4, 2) := by decide +kernel
theorem dX8_instead_91 : decode cX8_instead 91 = .ok (.imul, 1) := by decide +kernel
theorem dX8_instead_92 : decode cX8_instead 92 = .ok (.iload_n 1, 1) := by decide +kernel
theorem dX8_instead_93 : decode cX8_instead 93 = .ok (.iadd, 1) := by decide +kernel
theorem dX8_instead_94 : decode cX8_instead 94 = .ok (.aload_n 0, 1) := by decide +kernel
theorem dX8_instead_95 : decode cX8_instead 95 = .ok (.getfield 51, 3) := by decide +kernel
theorem dX8_instead_98 : decode cX8_instead 98 = .ok (.iload 4, 2) := by decide +kernel
theorem dX8_instead_100 : decode cX8_instead 100 = .ok (.laload, 1) := by decide +kernel
theorem dX8_instead_101 : decode cX8_instead 101 = .ok (.lastore, 1) := by decide +kernel
theorem dX8_instead_102 : decode cX8_instead 102 = .ok (.aload_n 0, 1) := by decide +kernel
theorem dX8_instead_103 : decode cX8_instead 103 = .ok (.getfield 51, 3) := by decide +kernel
theorem dX8_instead_106 : decode cX8_instead 106 = .ok (.iload 4, 2) := by decide +kernel
theorem dX8_instead_108 : decode cX8_instead 108 = .ok (.lload 5, 2) := by decide +kernel
theorem dX8_instead_110 : decode cX8_instead 110 = .ok (.lastore, 1) := by decide +kernel
theorem dX8_instead_111 : decode cX8_instead 111 = .ok (.iinc 4 1, 3) := by decide +kernel
theorem dX8_instead_114 : decode cX8_instead 114 = .ok (.goto (-54), 3) := by decide +kernel
theorem dX8_instead_117 : decode cX8_instead 117 = .ok (.lload_n 2, 1) := by decide +kernel
theorem dX8_instead_118 : decode cX8_instead 118 = .ok (.lreturn, 1) := by decide +kernel
theorem dX8_laysSome_0 : decode cX8_laysSome 0 = .ok (.iconst 0, 1) := by decide +kernel
theorem dX8_laysSome_1 : decode cX8_laysSome 1 = .ok (.istore_n 2, 1) := by decide +kernel
theorem dX8_laysSome_2 : decode cX8_laysSome 2 = .ok (.iconst 0, 1) := by decide +kernel
theorem dX8_laysSome_3 : decode cX8_laysSome 3 = .ok (.istore_n 3, 1) := by decide +kernel
theorem dX8_laysSome_4 : decode cX8_laysSome 4 = .ok (.iload_n 3, 1) := by decide +kernel
theorem dX8_laysSome_5 : decode cX8_laysSome 5 = .ok (.aload_n 0, 1) := by decide +kernel
theorem dX8_laysSome_6 : decode cX8_laysSome 6 = .ok (.getfield 88, 3) := by decide +kernel
theorem dX8_laysSome_9 : decode cX8_laysSome 9 = .ok (.if_icmp .ge 27, 3) := by decide +kernel
theorem dX8_laysSome_12 : decode cX8_laysSome 12 = .ok (.iload_n 1, 1) := by decide +kernel
theorem dX8_laysSome_13 : decode cX8_laysSome 13 = .ok (.iload_n 3, 1) := by decide +kernel
theorem dX8_laysSome_14 : decode cX8_laysSome 14 = .ok (.invokestatic 135, 3) := by decide +kernel
theorem dX8_laysSome_17 : decode cX8_laysSome 17 = .ok (.ifCond .eq 13, 3) := by decide +kernel
theorem dX8_laysSome_20 : decode cX8_laysSome 20 = .ok (.aload_n 0, 1) := by decide +kernel
theorem dX8_laysSome_21 : decode cX8_laysSome 21 = .ok (.getfield 48, 3) := by decide +kernel
theorem dX8_laysSome_24 : decode cX8_laysSome 24 = .ok (.iload_n 2, 1) := by decide +kernel
theorem dX8_laysSome_25 : decode cX8_laysSome 25 = .ok (.iload_n 3, 1) := by decide +kernel
theorem dX8_laysSome_26 : decode cX8_laysSome 26 = .ok (.iastore, 1) := by decide +kernel
theorem dX8_laysSome_27 : decode cX8_laysSome 27 = .ok (.iinc 2 1, 3) := by decide +kernel
theorem dX8_laysSome_30 : decode cX8_laysSome 30 = .ok (.iinc 3 1, 3) := by decide +kernel
theorem dX8_laysSome_33 : decode cX8_laysSome 33 = .ok (.goto (-29), 3) := by decide +kernel
theorem dX8_laysSome_36 : decode cX8_laysSome 36 = .ok (.iload_n 2, 1) := by decide +kernel
theorem dX8_laysSome_37 : decode cX8_laysSome 37 = .ok (.ireturn, 1) := by decide +kernel
theorem dX8_tells_0 : decode cX8_tells 0 = .ok (.iconst 0, 1) := by decide +kernel
theorem dX8_tells_1 : decode cX8_tells 1 = .ok (.istore 5, 2) := by decide +kernel
theorem dX8_tells_3 : decode cX8_tells 3 = .ok (.iload 5, 2) := by decide +kernel
theorem dX8_tells_5 : decode cX8_tells 5 = .ok (.bipush 6, 2) := by decide +kernel
theorem dX8_tells_7 : decode cX8_tells 7 = .ok (.if_icmp .ge 14, 3) := by decide +kernel
theorem dX8_tells_10 : decode cX8_tells 10 = .ok (.aload_n 2, 1) := by decide +kernel
theorem dX8_tells_11 : decode cX8_tells 11 = .ok (.iload 5, 2) := by decide +kernel
theorem dX8_tells_13 : decode cX8_tells 13 = .ok (.lconst 0, 1) := by decide +kernel
theorem dX8_tells_14 : decode cX8_tells 14 = .ok (.lastore, 1) := by decide +kernel
theorem dX8_tells_15 : decode cX8_tells 15 = .ok (.iinc 5 1, 3) := by decide +kernel
theorem dX8_tells_18 : decode cX8_tells 18 = .ok (.goto (-15), 3) := by decide +kernel
theorem dX8_tells_21 : decode cX8_tells 21 = .ok (.iconst 0, 1) := by decide +kernel
theorem dX8_tells_22 : decode cX8_tells 22 = .ok (.istore 5, 2) := by decide +kernel
theorem dX8_tells_24 : decode cX8_tells 24 = .ok (.iload 5, 2) := by decide +kernel
theorem dX8_tells_26 : decode cX8_tells 26 = .ok (.aload_n 0, 1) := by decide +kernel
theorem dX8_tells_27 : decode cX8_tells 27 = .ok (.getfield 7, 3) := by decide +kernel
theorem dX8_tells_30 : decode cX8_tells 30 = .ok (.iload_n 3, 1) := by decide +kernel
theorem dX8_tells_31 : decode cX8_tells 31 = .ok (.iadd, 1) := by decide +kernel
theorem dX8_tells_32 : decode cX8_tells 32 = .ok (.if_icmp .ge 66, 3) := by decide +kernel
theorem dX8_tells_35 : decode cX8_tells 35 = .ok (.iload 4, 2) := by decide +kernel
theorem dX8_tells_37 : decode cX8_tells 37 = .ok (.ifCond .eq 13, 3) := by decide +kernel
theorem dX8_tells_40 : decode cX8_tells 40 = .ok (.aload_n 0, 1) := by decide +kernel
theorem dX8_tells_41 : decode cX8_tells 41 = .ok (.iload 5, 2) := by decide +kernel
theorem dX8_tells_43 : decode cX8_tells 43 = .ok (.invokevirtual 150, 3) := by decide +kernel
theorem dX8_tells_46 : decode cX8_tells 46 = .ok (.lneg, 1) := by decide +kernel
theorem dX8_tells_47 : decode cX8_tells 47 = .ok (.goto 9, 3) := by decide +kernel
theorem dX8_tells_50 : decode cX8_tells 50 = .ok (.aload_n 0, 1) := by decide +kernel
theorem dX8_tells_51 : decode cX8_tells 51 = .ok (.iload 5, 2) := by decide +kernel
theorem dX8_tells_53 : decode cX8_tells 53 = .ok (.invokevirtual 150, 3) := by decide +kernel
theorem dX8_tells_56 : decode cX8_tells 56 = .ok (.lstore 6, 2) := by decide +kernel
theorem dX8_tells_58 : decode cX8_tells 58 = .ok (.iload 5, 2) := by decide +kernel
theorem dX8_tells_60 : decode cX8_tells 60 = .ok (.aload_n 0, 1) := by decide +kernel
theorem dX8_tells_61 : decode cX8_tells 61 = .ok (.getfield 7, 3) := by decide +kernel
theorem dX8_tells_64 : decode cX8_tells 64 = .ok (.if_icmp .ge 12, 3) := by decide +kernel
theorem dX8_tells_67 : decode cX8_tells 67 = .ok (.aload_n 1, 1) := by decide +kernel
theorem dX8_tells_68 : decode cX8_tells 68 = .ok (.iload 5, 2) := by decide +kernel
theorem dX8_tells_70 : decode cX8_tells 70 = .ok (.lload 6, 2) := by decide +kernel
theorem dX8_tells_72 : decode cX8_tells 72 = .ok (.lastore, 1) := by decide +kernel
theorem dX8_tells_73 : decode cX8_tells 73 = .ok (.goto 19, 3) := by decide +kernel
theorem dX8_tells_76 : decode cX8_tells 76 = .ok (.aload_n 2, 1) := by decide +kernel
theorem dX8_tells_77 : decode cX8_tells 77 = .ok (.aload_n 0, 1) := by decide +kernel
theorem dX8_tells_78 : decode cX8_tells 78 = .ok (.getfield 48, 3) := by decide +kernel
theorem dX8_tells_81 : decode cX8_tells 81 = .ok (.iload 5, 2) := by decide +kernel
theorem dX8_tells_83 : decode cX8_tells 83 = .ok (.aload_n 0, 1) := by decide +kernel
theorem dX8_tells_84 : decode cX8_tells 84 = .ok (.getfield 7, 3) := by decide +kernel
theorem dX8_tells_87 : decode cX8_tells 87 = .ok (.isub, 1) := by decide +kernel
theorem dX8_tells_88 : decode cX8_tells 88 = .ok (.iaload, 1) := by decide +kernel
theorem dX8_tells_89 : decode cX8_tells 89 = .ok (.lload 6, 2) := by decide +kernel
theorem dX8_tells_91 : decode cX8_tells 91 = .ok (.lastore, 1) := by decide +kernel
theorem dX8_tells_92 : decode cX8_tells 92 = .ok (.iinc 5 1, 3) := by decide +kernel
theorem dX8_tells_95 : decode cX8_tells 95 = .ok (.goto (-71), 3) := by decide +kernel
theorem dX8_tells_98 : decode cX8_tells 98 = .ok (.return_, 1) := by decide +kernel
theorem dX8_finds_0 : decode cX8_finds 0 = .ok (.aload_n 0, 1) := by decide +kernel
theorem dX8_finds_1 : decode cX8_finds 1 = .ok (.iload_n 1, 1) := by decide +kernel
theorem dX8_finds_2 : decode cX8_finds 2 = .ok (.invokevirtual 154, 3) := by decide +kernel
theorem dX8_finds_5 : decode cX8_finds 5 = .ok (.istore_n 2, 1) := by decide +kernel
theorem dX8_finds_6 : decode cX8_finds 6 = .ok (.iload_n 2, 1) := by decide +kernel
theorem dX8_finds_7 : decode cX8_finds 7 = .ok (.aload_n 0, 1) := by decide +kernel
theorem dX8_finds_8 : decode cX8_finds 8 = .ok (.getfield 7, 3) := by decide +kernel
theorem dX8_finds_11 : decode cX8_finds 11 = .ok (.if_icmp .le 5, 3) := by decide +kernel
theorem dX8_finds_14 : decode cX8_finds 14 = .ok (.iconst 0, 1) := by decide +kernel
theorem dX8_finds_15 : decode cX8_finds 15 = .ok (.ireturn, 1) := by decide +kernel
theorem dX8_finds_16 : decode cX8_finds 16 = .ok (.aload_n 0, 1) := by decide +kernel
theorem dX8_finds_17 : decode cX8_finds 17 = .ok (.iload_n 2, 1) := by decide +kernel
theorem dX8_finds_18 : decode cX8_finds 18 = .ok (.invokevirtual 157, 3) := by decide +kernel
theorem dX8_finds_21 : decode cX8_finds 21 = .ok (.aload_n 0, 1) := by decide +kernel
theorem dX8_finds_22 : decode cX8_finds 22 = .ok (.invokevirtual 139, 3) := by decide +kernel
theorem dX8_finds_25 : decode cX8_finds 25 = .ok (.lstore_n 3, 1) := by decide +kernel
theorem dX8_finds_26 : decode cX8_finds 26 = .ok (.lload_n 3, 1) := by decide +kernel
theorem dX8_finds_27 : decode cX8_finds 27 = .ok (.lconst 0, 1) := by decide +kernel
theorem dX8_finds_28 : decode cX8_finds 28 = .ok (.lcmp, 1) := by decide +kernel
theorem dX8_finds_29 : decode cX8_finds 29 = .ok (.ifCond .ne 5, 3) := by decide +kernel
theorem dX8_finds_32 : decode cX8_finds 32 = .ok (.iconst 0, 1) := by decide +kernel
theorem dX8_finds_33 : decode cX8_finds 33 = .ok (.ireturn, 1) := by decide +kernel
theorem dX8_finds_34 : decode cX8_finds 34 = .ok (.aload_n 0, 1) := by decide +kernel
theorem dX8_finds_35 : decode cX8_finds 35 = .ok (.lload_n 3, 1) := by decide +kernel
theorem dX8_finds_36 : decode cX8_finds 36 = .ok (.lconst 0, 1) := by decide +kernel
theorem dX8_finds_37 : decode cX8_finds 37 = .ok (.lcmp, 1) := by decide +kernel
theorem dX8_finds_38 : decode cX8_finds 38 = .ok (.ifCond .ge 8, 3) := by decide +kernel
theorem dX8_finds_41 : decode cX8_finds 41 = .ok (.lload_n 3, 1) := by decide +kernel
theorem dX8_finds_42 : decode cX8_finds 42 = .ok (.lneg, 1) := by decide +kernel
theorem dX8_finds_43 : decode cX8_finds 43 = .ok (.goto 4, 3) := by decide +kernel
theorem dX8_finds_46 : decode cX8_finds 46 = .ok (.lload_n 3, 1) := by decide +kernel
theorem dX8_finds_47 : decode cX8_finds 47 = .ok (.putfield 161, 3) := by decide +kernel
theorem dX8_finds_50 : decode cX8_finds 50 = .ok (.iconst 0, 1) := by decide +kernel
theorem dX8_finds_51 : decode cX8_finds 51 = .ok (.istore 5, 2) := by decide +kernel
theorem dX8_finds_53 : decode cX8_finds 53 = .ok (.iload 5, 2) := by decide +kernel
theorem dX8_finds_55 : decode cX8_finds 55 = .ok (.aload_n 0, 1) := by decide +kernel
theorem dX8_finds_56 : decode cX8_finds 56 = .ok (.getfield 132, 3) := by decide +kernel
theorem dX8_finds_59 : decode cX8_finds 59 = .ok (.if_icmp .ge 54, 3) := by decide +kernel
theorem dX8_finds_62 : decode cX8_finds 62 = .ok (.aload_n 0, 1) := by decide +kernel
theorem dX8_finds_63 : decode cX8_finds 63 = .ok (.getfield 51, 3) := by decide +kernel
theorem dX8_finds_66 : decode cX8_finds 66 = .ok (.iload 5, 2) := by decide +kernel
theorem dX8_finds_68 : decode cX8_finds 68 = .ok (.iload 5, 2) := by decide +kernel
theorem dX8_finds_70 : decode cX8_finds 70 = .ok (.aload_n 0, 1) := by decide +kernel
theorem dX8_finds_71 : decode cX8_finds 71 = .ok (.getfield 7, 3) := by decide +kernel
theorem dX8_finds_74 : decode cX8_finds 74 = .ok (.if_icmp .ge 15, 3) := by decide +kernel
theorem dX8_finds_77 : decode cX8_finds 77 = .ok (.aload_n 0, 1) := by decide +kernel
theorem dX8_finds_78 : decode cX8_finds 78 = .ok (.getfield 17, 3) := by decide +kernel
theorem dX8_finds_81 : decode cX8_finds 81 = .ok (.iload 5, 2) := by decide +kernel
theorem dX8_finds_83 : decode cX8_finds 83 = .ok (.iaload, 1) := by decide +kernel
theorem dX8_finds_84 : decode cX8_finds 84 = .ok (.ineg, 1) := by decide +kernel
theorem dX8_finds_85 : decode cX8_finds 85 = .ok (.i2l, 1) := by decide +kernel
theorem dX8_finds_86 : decode cX8_finds 86 = .ok (.goto 20, 3) := by decide +kernel
theorem dX8_finds_89 : decode cX8_finds 89 = .ok (.aload_n 0, 1) := by decide +kernel
theorem dX8_finds_90 : decode cX8_finds 90 = .ok (.aload_n 0, 1) := by decide +kernel
theorem dX8_finds_91 : decode cX8_finds 91 = .ok (.getfield 48, 3) := by decide +kernel
theorem dX8_finds_94 : decode cX8_finds 94 = .ok (.iload 5, 2) := by decide +kernel
theorem dX8_finds_96 : decode cX8_finds 96 = .ok (.aload_n 0, 1) := by decide +kernel
theorem dX8_finds_97 : decode cX8_finds 97 = .ok (.getfield 7, 3) := by decide +kernel
theorem dX8_finds_100 : decode cX8_finds 100 = .ok (.isub, 1) := by decide +kernel
theorem dX8_finds_101 : decode cX8_finds 101 = .ok (.iaload, 1) := by decide +kernel
theorem dX8_finds_102 : decode cX8_finds 102 = .ok (.invokevirtual 125, 3) := by decide +kernel
theorem dX8_finds_105 : decode cX8_finds 105 = .ok (.i2l, 1) := by decide +kernel
theorem dX8_finds_106 : decode cX8_finds 106 = .ok (.lastore, 1) := by decide +kernel
theorem dX8_finds_107 : decode cX8_finds 107 = .ok (.iinc 5 1, 3) := by decide +kernel
theorem dX8_finds_110 : decode cX8_finds 110 = .ok (.goto (-57), 3) := by decide +kernel
theorem dX8_finds_113 : decode cX8_finds 113 = .ok (.aload_n 0, 1) := by decide +kernel
theorem dX8_finds_114 : decode cX8_finds 114 = .ok (.aload_n 0, 1) := by decide +kernel
theorem dX8_finds_115 : decode cX8_finds 115 = .ok (.getfield 36, 3) := by decide +kernel
theorem dX8_finds_118 : decode cX8_finds 118 = .ok (.aload_n 0, 1) := by decide +kernel
theorem dX8_finds_119 : decode cX8_finds 119 = .ok (.getfield 39, 3) := by decide +kernel
theorem dX8_finds_122 : decode cX8_finds 122 = .ok (.iload_n 2, 1) := by decide +kernel
theorem dX8_finds_123 : decode cX8_finds 123 = .ok (.lload_n 3, 1) := by decide +kernel
theorem dX8_finds_124 : decode cX8_finds 124 = .ok (.lconst 0, 1) := by decide +kernel
theorem dX8_finds_125 : decode cX8_finds 125 = .ok (.lcmp, 1) := by decide +kernel
theorem dX8_finds_126 : decode cX8_finds 126 = .ok (.ifCond .ge 7, 3) := by decide +kernel
theorem dX8_finds_129 : decode cX8_finds 129 = .ok (.iconst 1, 1) := by decide +kernel
theorem dX8_finds_130 : decode cX8_finds 130 = .ok (.goto 4, 3) := by decide +kernel
theorem dX8_finds_133 : decode cX8_finds 133 = .ok (.iconst 0, 1) := by decide +kernel
theorem dX8_finds_134 : decode cX8_finds 134 = .ok (.invokevirtual 165, 3) := by decide +kernel
theorem dX8_finds_137 : decode cX8_finds 137 = .ok (.iconst 1, 1) := by decide +kernel
theorem dX8_finds_138 : decode cX8_finds 138 = .ok (.ireturn, 1) := by decide +kernel
theorem dX8_findsRise_0 : decode cX8_findsRise 0 = .ok (.aload_n 0, 1) := by decide +kernel
theorem dX8_findsRise_1 : decode cX8_findsRise 1 = .ok (.iload_n 1, 1) := by decide +kernel
theorem dX8_findsRise_2 : decode cX8_findsRise 2 = .ok (.invokevirtual 154, 3) := by decide +kernel
theorem dX8_findsRise_5 : decode cX8_findsRise 5 = .ok (.istore_n 2, 1) := by decide +kernel
theorem dX8_findsRise_6 : decode cX8_findsRise 6 = .ok (.aload_n 0, 1) := by decide +kernel
theorem dX8_findsRise_7 : decode cX8_findsRise 7 = .ok (.iload_n 2, 1) := by decide +kernel
theorem dX8_findsRise_8 : decode cX8_findsRise 8 = .ok (.invokevirtual 157, 3) := by decide +kernel
theorem dX8_findsRise_11 : decode cX8_findsRise 11 = .ok (.aload_n 0, 1) := by decide +kernel
theorem dX8_findsRise_12 : decode cX8_findsRise 12 = .ok (.invokevirtual 139, 3) := by decide +kernel
theorem dX8_findsRise_15 : decode cX8_findsRise 15 = .ok (.lconst 0, 1) := by decide +kernel
theorem dX8_findsRise_16 : decode cX8_findsRise 16 = .ok (.lcmp, 1) := by decide +kernel
theorem dX8_findsRise_17 : decode cX8_findsRise 17 = .ok (.ifCond .ge 7, 3) := by decide +kernel
theorem dX8_findsRise_20 : decode cX8_findsRise 20 = .ok (.iconst 1, 1) := by decide +kernel
theorem dX8_findsRise_21 : decode cX8_findsRise 21 = .ok (.goto 4, 3) := by decide +kernel
theorem dX8_findsRise_24 : decode cX8_findsRise 24 = .ok (.iconst 0, 1) := by decide +kernel
theorem dX8_findsRise_25 : decode cX8_findsRise 25 = .ok (.istore_n 3, 1) := by decide +kernel
theorem dX8_findsRise_26 : decode cX8_findsRise 26 = .ok (.iconst 0, 1) := by decide +kernel
theorem dX8_findsRise_27 : decode cX8_findsRise 27 = .ok (.istore 4, 2) := by decide +kernel
theorem dX8_findsRise_29 : decode cX8_findsRise 29 = .ok (.iload 4, 2) := by decide +kernel
theorem dX8_findsRise_31 : decode cX8_findsRise 31 = .ok (.aload_n 0, 1) := by decide +kernel
theorem dX8_findsRise_32 : decode cX8_findsRise 32 = .ok (.getfield 132, 3) := by decide +kernel
theorem dX8_findsRise_35 : decode cX8_findsRise 35 = .ok (.if_icmp .ge 46, 3) := by decide +kernel
theorem dX8_findsRise_38 : decode cX8_findsRise 38 = .ok (.aload_n 0, 1) := by decide +kernel
theorem dX8_findsRise_39 : decode cX8_findsRise 39 = .ok (.getfield 51, 3) := by decide +kernel
theorem dX8_findsRise_42 : decode cX8_findsRise 42 = .ok (.iload 4, 2) := by decide +kernel
theorem dX8_findsRise_44 : decode cX8_findsRise 44 = .ok (.iload 4, 2) := by decide +kernel
theorem dX8_findsRise_46 : decode cX8_findsRise 46 = .ok (.aload_n 0, 1) := by decide +kernel
theorem dX8_findsRise_47 : decode cX8_findsRise 47 = .ok (.getfield 7, 3) := by decide +kernel
theorem dX8_findsRise_50 : decode cX8_findsRise 50 = .ok (.if_icmp .ge 7, 3) := by decide +kernel
theorem dX8_findsRise_53 : decode cX8_findsRise 53 = .ok (.lconst 0, 1) := by decide +kernel
theorem dX8_findsRise_54 : decode cX8_findsRise 54 = .ok (.goto 20, 3) := by decide +kernel
theorem dX8_findsRise_57 : decode cX8_findsRise 57 = .ok (.aload_n 0, 1) := by decide +kernel
theorem dX8_findsRise_58 : decode cX8_findsRise 58 = .ok (.aload_n 0, 1) := by decide +kernel
theorem dX8_findsRise_59 : decode cX8_findsRise 59 = .ok (.getfield 48, 3) := by decide +kernel
theorem dX8_findsRise_62 : decode cX8_findsRise 62 = .ok (.iload 4, 2) := by decide +kernel
theorem dX8_findsRise_64 : decode cX8_findsRise 64 = .ok (.aload_n 0, 1) := by decide +kernel
theorem dX8_findsRise_65 : decode cX8_findsRise 65 = .ok (.getfield 7, 3) := by decide +kernel
theorem dX8_findsRise_68 : decode cX8_findsRise 68 = .ok (.isub, 1) := by decide +kernel
theorem dX8_findsRise_69 : decode cX8_findsRise 69 = .ok (.iaload, 1) := by decide +kernel
theorem dX8_findsRise_70 : decode cX8_findsRise 70 = .ok (.invokevirtual 169, 3) := by decide +kernel
theorem dX8_findsRise_73 : decode cX8_findsRise 73 = .ok (.i2l, 1) := by decide +kernel
theorem dX8_findsRise_74 : decode cX8_findsRise 74 = .ok (.lastore, 1) := by decide +kernel
theorem dX8_findsRise_75 : decode cX8_findsRise 75 = .ok (.iinc 4 1, 3) := by decide +kernel
theorem dX8_findsRise_78 : decode cX8_findsRise 78 = .ok (.goto (-49), 3) := by decide +kernel
theorem dX8_findsRise_81 : decode cX8_findsRise 81 = .ok (.aload_n 0, 1) := by decide +kernel
theorem dX8_findsRise_82 : decode cX8_findsRise 82 = .ok (.aload_n 0, 1) := by decide +kernel
theorem dX8_findsRise_83 : decode cX8_findsRise 83 = .ok (.getfield 42, 3) := by decide +kernel
theorem dX8_findsRise_86 : decode cX8_findsRise 86 = .ok (.aload_n 0, 1) := by decide +kernel
theorem dX8_findsRise_87 : decode cX8_findsRise 87 = .ok (.getfield 45, 3) := by decide +kernel
theorem dX8_findsRise_90 : decode cX8_findsRise 90 = .ok (.iload_n 2, 1) := by decide +kernel
theorem dX8_findsRise_91 : decode cX8_findsRise 91 = .ok (.iload_n 3, 1) := by decide +kernel
theorem dX8_findsRise_92 : decode cX8_findsRise 92 = .ok (.invokevirtual 165, 3) := by decide +kernel
theorem dX8_findsRise_95 : decode cX8_findsRise 95 = .ok (.return_, 1) := by decide +kernel
theorem dX8_slackOf_0 : decode cX8_slackOf 0 = .ok (.aload_n 0, 1) := by decide +kernel
theorem dX8_slackOf_1 : decode cX8_slackOf 1 = .ok (.iload_n 1, 1) := by decide +kernel
theorem dX8_slackOf_2 : decode cX8_slackOf 2 = .ok (.invokevirtual 125, 3) := by decide +kernel
theorem dX8_slackOf_5 : decode cX8_slackOf 5 = .ok (.i2l, 1) := by decide +kernel
theorem dX8_slackOf_6 : decode cX8_slackOf 6 = .ok (.aload_n 0, 1) := by decide +kernel
theorem dX8_slackOf_7 : decode cX8_slackOf 7 = .ok (.getfield 161, 3) := by decide +kernel
theorem dX8_slackOf_10 : decode cX8_slackOf 10 = .ok (.lmul, 1) := by decide +kernel
theorem dX8_slackOf_11 : decode cX8_slackOf 11 = .ok (.lstore_n 2, 1) := by decide +kernel
theorem dX8_slackOf_12 : decode cX8_slackOf 12 = .ok (.iconst 0, 1) := by decide +kernel
theorem dX8_slackOf_13 : decode cX8_slackOf 13 = .ok (.istore 4, 2) := by decide +kernel
theorem dX8_slackOf_15 : decode cX8_slackOf 15 = .ok (.iload 4, 2) := by decide +kernel
theorem dX8_slackOf_17 : decode cX8_slackOf 17 = .ok (.aload_n 0, 1) := by decide +kernel
theorem dX8_slackOf_18 : decode cX8_slackOf 18 = .ok (.getfield 7, 3) := by decide +kernel
theorem dX8_slackOf_21 : decode cX8_slackOf 21 = .ok (.if_icmp .ge 28, 3) := by decide +kernel
theorem dX8_slackOf_24 : decode cX8_slackOf 24 = .ok (.lload_n 2, 1) := by decide +kernel
theorem dX8_slackOf_25 : decode cX8_slackOf 25 = .ok (.aload_n 0, 1) := by decide +kernel
theorem dX8_slackOf_26 : decode cX8_slackOf 26 = .ok (.iload_n 1, 1) := by decide +kernel
theorem dX8_slackOf_27 : decode cX8_slackOf 27 = .ok (.iload 4, 2) := by decide +kernel
theorem dX8_slackOf_29 : decode cX8_slackOf 29 = .ok (.invokevirtual 129, 3) := by decide +kernel
theorem dX8_slackOf_32 : decode cX8_slackOf 32 = .ok (.i2l, 1) := by decide +kernel
theorem dX8_slackOf_33 : decode cX8_slackOf 33 = .ok (.aload_n 0, 1) := by decide +kernel
theorem dX8_slackOf_34 : decode cX8_slackOf 34 = .ok (.getfield 36, 3) := by decide +kernel
theorem dX8_slackOf_37 : decode cX8_slackOf 37 = .ok (.iload 4, 2) := by decide +kernel
theorem dX8_slackOf_39 : decode cX8_slackOf 39 = .ok (.laload, 1) := by decide +kernel
theorem dX8_slackOf_40 : decode cX8_slackOf 40 = .ok (.lmul, 1) := by decide +kernel
theorem dX8_slackOf_41 : decode cX8_slackOf 41 = .ok (.lsub, 1) := by decide +kernel
theorem dX8_slackOf_42 : decode cX8_slackOf 42 = .ok (.lstore_n 2, 1) := by decide +kernel
theorem dX8_slackOf_43 : decode cX8_slackOf 43 = .ok (.iinc 4 1, 3) := by decide +kernel
theorem dX8_slackOf_46 : decode cX8_slackOf 46 = .ok (.goto (-31), 3) := by decide +kernel
theorem dX8_slackOf_49 : decode cX8_slackOf 49 = .ok (.lload_n 2, 1) := by decide +kernel
theorem dX8_slackOf_50 : decode cX8_slackOf 50 = .ok (.lreturn, 1) := by decide +kernel
theorem dX8_holds_0 : decode cX8_holds 0 = .ok (.aload_n 0, 1) := by decide +kernel
theorem dX8_holds_1 : decode cX8_holds 1 = .ok (.iload_n 1, 1) := by decide +kernel
theorem dX8_holds_2 : decode cX8_holds 2 = .ok (.invokevirtual 172, 3) := by decide +kernel
theorem dX8_holds_5 : decode cX8_holds 5 = .ok (.lstore_n 2, 1) := by decide +kernel
theorem dX8_holds_6 : decode cX8_holds 6 = .ok (.aload_n 0, 1) := by decide +kernel
theorem dX8_holds_7 : decode cX8_holds 7 = .ok (.iload_n 1, 1) := by decide +kernel
theorem dX8_holds_8 : decode cX8_holds 8 = .ok (.invokevirtual 175, 3) := by decide +kernel
theorem dX8_holds_11 : decode cX8_holds 11 = .ok (.ifCond .eq 17, 3) := by decide +kernel
theorem dX8_holds_14 : decode cX8_holds 14 = .ok (.lload_n 2, 1) := by decide +kernel
theorem dX8_holds_15 : decode cX8_holds 15 = .ok (.lconst 0, 1) := by decide +kernel
theorem dX8_holds_16 : decode cX8_holds 16 = .ok (.lcmp, 1) := by decide +kernel
theorem dX8_holds_17 : decode cX8_holds 17 = .ok (.ifCond .ne 7, 3) := by decide +kernel
theorem dX8_holds_20 : decode cX8_holds 20 = .ok (.iconst 1, 1) := by decide +kernel
theorem dX8_holds_21 : decode cX8_holds 21 = .ok (.goto 18, 3) := by decide +kernel
theorem dX8_holds_24 : decode cX8_holds 24 = .ok (.iconst 0, 1) := by decide +kernel
theorem dX8_holds_25 : decode cX8_holds 25 = .ok (.goto 14, 3) := by decide +kernel
theorem dX8_holds_28 : decode cX8_holds 28 = .ok (.lload_n 2, 1) := by decide +kernel
theorem dX8_holds_29 : decode cX8_holds 29 = .ok (.lconst 0, 1) := by decide +kernel
theorem dX8_holds_30 : decode cX8_holds 30 = .ok (.lcmp, 1) := by decide +kernel
theorem dX8_holds_31 : decode cX8_holds 31 = .ok (.ifCond .lt 7, 3) := by decide +kernel
theorem dX8_holds_34 : decode cX8_holds 34 = .ok (.iconst 1, 1) := by decide +kernel
theorem dX8_holds_35 : decode cX8_holds 35 = .ok (.goto 4, 3) := by decide +kernel
theorem dX8_holds_38 : decode cX8_holds 38 = .ok (.iconst 0, 1) := by decide +kernel
theorem dX8_holds_39 : decode cX8_holds 39 = .ok (.ireturn, 1) := by decide +kernel
theorem dX8_isRight_0 : decode cX8_isRight 0 = .ok (.iconst 1, 1) := by decide +kernel
theorem dX8_isRight_1 : decode cX8_isRight 1 = .ok (.istore_n 2, 1) := by decide +kernel
theorem dX8_isRight_2 : decode cX8_isRight 2 = .ok (.iconst 0, 1) := by decide +kernel
theorem dX8_isRight_3 : decode cX8_isRight 3 = .ok (.istore_n 3, 1) := by decide +kernel
theorem dX8_isRight_4 : decode cX8_isRight 4 = .ok (.iload_n 3, 1) := by decide +kernel
theorem dX8_isRight_5 : decode cX8_isRight 5 = .ok (.aload_n 0, 1) := by decide +kernel
theorem dX8_isRight_6 : decode cX8_isRight 6 = .ok (.getfield 88, 3) := by decide +kernel
theorem dX8_isRight_9 : decode cX8_isRight 9 = .ok (.if_icmp .ge 54, 3) := by decide +kernel
theorem dX8_isRight_12 : decode cX8_isRight 12 = .ok (.iload_n 2, 1) := by decide +kernel
theorem dX8_isRight_13 : decode cX8_isRight 13 = .ok (.ifCond .eq 50, 3) := by decide +kernel
theorem dX8_isRight_16 : decode cX8_isRight 16 = .ok (.iload_n 1, 1) := by decide +kernel
theorem dX8_isRight_17 : decode cX8_isRight 17 = .ok (.iload_n 3, 1) := by decide +kernel
theorem dX8_isRight_18 : decode cX8_isRight 18 = .ok (.invokestatic 135, 3) := by decide +kernel
theorem dX8_isRight_21 : decode cX8_isRight 21 = .ok (.ifCond .eq 11, 3) := by decide +kernel
theorem dX8_isRight_24 : decode cX8_isRight 24 = .ok (.aload_n 0, 1) := by decide +kernel
theorem dX8_isRight_25 : decode cX8_isRight 25 = .ok (.iload_n 3, 1) := by decide +kernel
theorem dX8_isRight_26 : decode cX8_isRight 26 = .ok (.invokevirtual 178, 3) := by decide +kernel
theorem dX8_isRight_29 : decode cX8_isRight 29 = .ok (.ifCond .eq 26, 3) := by decide +kernel
theorem dX8_isRight_32 : decode cX8_isRight 32 = .ok (.aload_n 0, 1) := by decide +kernel
theorem dX8_isRight_33 : decode cX8_isRight 33 = .ok (.iload_n 3, 1) := by decide +kernel
theorem dX8_isRight_34 : decode cX8_isRight 34 = .ok (.invokevirtual 175, 3) := by decide +kernel
theorem dX8_isRight_37 : decode cX8_isRight 37 = .ok (.ifCond .ne 14, 3) := by decide +kernel
theorem dX8_isRight_40 : decode cX8_isRight 40 = .ok (.aload_n 0, 1) := by decide +kernel
theorem dX8_isRight_41 : decode cX8_isRight 41 = .ok (.getfield 39, 3) := by decide +kernel
theorem dX8_isRight_44 : decode cX8_isRight 44 = .ok (.iload_n 3, 1) := by decide +kernel
theorem dX8_isRight_45 : decode cX8_isRight 45 = .ok (.laload, 1) := by decide +kernel
theorem dX8_isRight_46 : decode cX8_isRight 46 = .ok (.lconst 0, 1) := by decide +kernel
theorem dX8_isRight_47 : decode cX8_isRight 47 = .ok (.lcmp, 1) := by decide +kernel
theorem dX8_isRight_48 : decode cX8_isRight 48 = .ok (.ifCond .lt 7, 3) := by decide +kernel
theorem dX8_isRight_51 : decode cX8_isRight 51 = .ok (.iconst 1, 1) := by decide +kernel
theorem dX8_isRight_52 : decode cX8_isRight 52 = .ok (.goto 4, 3) := by decide +kernel
theorem dX8_isRight_55 : decode cX8_isRight 55 = .ok (.iconst 0, 1) := by decide +kernel
theorem dX8_isRight_56 : decode cX8_isRight 56 = .ok (.istore_n 2, 1) := by decide +kernel
theorem dX8_isRight_57 : decode cX8_isRight 57 = .ok (.iinc 3 1, 3) := by decide +kernel
theorem dX8_isRight_60 : decode cX8_isRight 60 = .ok (.goto (-56), 3) := by decide +kernel
theorem dX8_isRight_63 : decode cX8_isRight 63 = .ok (.iload_n 2, 1) := by decide +kernel
theorem dX8_isRight_64 : decode cX8_isRight 64 = .ok (.ireturn, 1) := by decide +kernel
theorem dX8_works_0 : decode cX8_works 0 = .ok (.iconst 0, 1) := by decide +kernel
theorem dX8_works_1 : decode cX8_works 1 = .ok (.istore_n 2, 1) := by decide +kernel
theorem dX8_works_2 : decode cX8_works 2 = .ok (.iload_n 2, 1) := by decide +kernel
theorem dX8_works_3 : decode cX8_works 3 = .ok (.iload_n 1, 1) := by decide +kernel
theorem dX8_works_4 : decode cX8_works 4 = .ok (.if_icmp .gt 35, 3) := by decide +kernel
theorem dX8_works_7 : decode cX8_works 7 = .ok (.iload_n 2, 1) := by decide +kernel
theorem dX8_works_8 : decode cX8_works 8 = .ok (.iload_n 1, 1) := by decide +kernel
theorem dX8_works_9 : decode cX8_works 9 = .ok (.iconst (-1), 1) := by decide +kernel
theorem dX8_works_10 : decode cX8_works 10 = .ok (.ixor, 1) := by decide +kernel
theorem dX8_works_11 : decode cX8_works 11 = .ok (.iand, 1) := by decide +kernel
theorem dX8_works_12 : decode cX8_works 12 = .ok (.ifCond .ne 21, 3) := by decide +kernel
theorem dX8_works_15 : decode cX8_works 15 = .ok (.aload_n 0, 1) := by decide +kernel
theorem dX8_works_16 : decode cX8_works 16 = .ok (.iload_n 2, 1) := by decide +kernel
theorem dX8_works_17 : decode cX8_works 17 = .ok (.invokevirtual 181, 3) := by decide +kernel
theorem dX8_works_20 : decode cX8_works 20 = .ok (.ifCond .eq 13, 3) := by decide +kernel
theorem dX8_works_23 : decode cX8_works 23 = .ok (.aload_n 0, 1) := by decide +kernel
theorem dX8_works_24 : decode cX8_works 24 = .ok (.iload_n 1, 1) := by decide +kernel
theorem dX8_works_25 : decode cX8_works 25 = .ok (.invokevirtual 184, 3) := by decide +kernel
theorem dX8_works_28 : decode cX8_works 28 = .ok (.ifCond .eq 5, 3) := by decide +kernel
theorem dX8_works_31 : decode cX8_works 31 = .ok (.iload_n 2, 1) := by decide +kernel
theorem dX8_works_32 : decode cX8_works 32 = .ok (.ireturn, 1) := by decide +kernel
theorem dX8_works_33 : decode cX8_works 33 = .ok (.iinc 2 1, 3) := by decide +kernel
theorem dX8_works_36 : decode cX8_works 36 = .ok (.goto (-34), 3) := by decide +kernel
theorem dX8_works_39 : decode cX8_works 39 = .ok (.iconst (-1), 1) := by decide +kernel
theorem dX8_works_40 : decode cX8_works 40 = .ok (.ireturn, 1) := by decide +kernel
theorem dX8_working_0 : decode cX8_working 0 = .ok (.aload_n 0, 1) := by decide +kernel
theorem dX8_working_1 : decode cX8_working 1 = .ok (.iload_n 1, 1) := by decide +kernel
theorem dX8_working_2 : decode cX8_working 2 = .ok (.invokevirtual 187, 3) := by decide +kernel
theorem dX8_working_5 : decode cX8_working 5 = .ok (.ifCond .ne 8, 3) := by decide +kernel
theorem dX8_working_8 : decode cX8_working 8 = .ok (.bipush (-2), 2) := by decide +kernel
theorem dX8_working_10 : decode cX8_working 10 = .ok (.goto 20, 3) := by decide +kernel
theorem dX8_working_13 : decode cX8_working 13 = .ok (.aload_n 0, 1) := by decide +kernel
theorem dX8_working_14 : decode cX8_working 14 = .ok (.invokevirtual 146, 3) := by decide +kernel
theorem dX8_working_17 : decode cX8_working 17 = .ok (.ifCond .ne 8, 3) := by decide +kernel
theorem dX8_working_20 : decode cX8_working 20 = .ok (.bipush (-3), 2) := by decide +kernel
theorem dX8_working_22 : decode cX8_working 22 = .ok (.goto 8, 3) := by decide +kernel
theorem dX8_working_25 : decode cX8_working 25 = .ok (.aload_n 0, 1) := by decide +kernel
theorem dX8_working_26 : decode cX8_working 26 = .ok (.iload_n 1, 1) := by decide +kernel
theorem dX8_working_27 : decode cX8_working 27 = .ok (.invokevirtual 190, 3) := by decide +kernel
theorem dX8_working_30 : decode cX8_working 30 = .ok (.ireturn, 1) := by decide +kernel
theorem dX8_lacks_0 : decode cX8_lacks 0 = .ok (.aload_n 0, 1) := by decide +kernel
theorem dX8_lacks_1 : decode cX8_lacks 1 = .ok (.iload_n 1, 1) := by decide +kernel
theorem dX8_lacks_2 : decode cX8_lacks 2 = .ok (.invokevirtual 187, 3) := by decide +kernel
theorem dX8_lacks_5 : decode cX8_lacks 5 = .ok (.ifCond .eq 7, 3) := by decide +kernel
theorem dX8_lacks_8 : decode cX8_lacks 8 = .ok (.iload_n 2, 1) := by decide +kernel
theorem dX8_lacks_9 : decode cX8_lacks 9 = .ok (.ifCond .ne 8, 3) := by decide +kernel
theorem dX8_lacks_12 : decode cX8_lacks 12 = .ok (.bipush (-2), 2) := by decide +kernel
theorem dX8_lacks_14 : decode cX8_lacks 14 = .ok (.goto 29, 3) := by decide +kernel
theorem dX8_lacks_17 : decode cX8_lacks 17 = .ok (.aload_n 0, 1) := by decide +kernel
theorem dX8_lacks_18 : decode cX8_lacks 18 = .ok (.invokevirtual 146, 3) := by decide +kernel
theorem dX8_lacks_21 : decode cX8_lacks 21 = .ok (.ifCond .ne 8, 3) := by decide +kernel
theorem dX8_lacks_24 : decode cX8_lacks 24 = .ok (.bipush (-3), 2) := by decide +kernel
theorem dX8_lacks_26 : decode cX8_lacks 26 = .ok (.goto 17, 3) := by decide +kernel
theorem dX8_lacks_29 : decode cX8_lacks 29 = .ok (.aload_n 0, 1) := by decide +kernel
theorem dX8_lacks_30 : decode cX8_lacks 30 = .ok (.iload_n 1, 1) := by decide +kernel
theorem dX8_lacks_31 : decode cX8_lacks 31 = .ok (.invokevirtual 190, 3) := by decide +kernel
theorem dX8_lacks_34 : decode cX8_lacks 34 = .ok (.iconst (-1), 1) := by decide +kernel
theorem dX8_lacks_35 : decode cX8_lacks 35 = .ok (.if_icmp .ne 7, 3) := by decide +kernel
theorem dX8_lacks_38 : decode cX8_lacks 38 = .ok (.iconst (-1), 1) := by decide +kernel
theorem dX8_lacks_39 : decode cX8_lacks 39 = .ok (.goto 4, 3) := by decide +kernel
theorem dX8_lacks_42 : decode cX8_lacks 42 = .ok (.iconst 0, 1) := by decide +kernel
theorem dX8_lacks_43 : decode cX8_lacks 43 = .ok (.ireturn, 1) := by decide +kernel
theorem dX8_answer_0 : decode cX8_answer 0 = .ok (.aload_n 0, 1) := by decide +kernel
theorem dX8_answer_1 : decode cX8_answer 1 = .ok (.iload_n 1, 1) := by decide +kernel
theorem dX8_answer_2 : decode cX8_answer 2 = .ok (.aload_n 0, 1) := by decide +kernel
theorem dX8_answer_3 : decode cX8_answer 3 = .ok (.iload_n 2, 1) := by decide +kernel
theorem dX8_answer_4 : decode cX8_answer 4 = .ok (.invokevirtual 96, 3) := by decide +kernel
theorem dX8_answer_7 : decode cX8_answer 7 = .ok (.ifCond .eq 14, 3) := by decide +kernel
theorem dX8_answer_10 : decode cX8_answer 10 = .ok (.iload_n 3, 1) := by decide +kernel
theorem dX8_answer_11 : decode cX8_answer 11 = .ok (.invokestatic 193, 3) := by decide +kernel
theorem dX8_answer_14 : decode cX8_answer 14 = .ok (.ifCond .eq 7, 3) := by decide +kernel
theorem dX8_answer_17 : decode cX8_answer 17 = .ok (.iconst 1, 1) := by decide +kernel
theorem dX8_answer_18 : decode cX8_answer 18 = .ok (.goto 4, 3) := by decide +kernel
theorem dX8_answer_21 : decode cX8_answer 21 = .ok (.iconst 0, 1) := by decide +kernel
theorem dX8_answer_22 : decode cX8_answer 22 = .ok (.invokevirtual 196, 3) := by decide +kernel
theorem dX8_answer_25 : decode cX8_answer 25 = .ok (.istore 4, 2) := by decide +kernel
theorem dX8_answer_27 : decode cX8_answer 27 = .ok (.iload 4, 2) := by decide +kernel
theorem dX8_answer_29 : decode cX8_answer 29 = .ok (.ifCond .eq 11, 3) := by decide +kernel
theorem dX8_answer_32 : decode cX8_answer 32 = .ok (.iload 4, 2) := by decide +kernel
theorem dX8_answer_34 : decode cX8_answer 34 = .ok (.invokestatic 200, 3) := by decide +kernel
theorem dX8_answer_37 : decode cX8_answer 37 = .ok (.goto 17, 3) := by decide +kernel
theorem dX8_answer_40 : decode cX8_answer 40 = .ok (.aload_n 0, 1) := by decide +kernel
theorem dX8_answer_41 : decode cX8_answer 41 = .ok (.getfield 36, 3) := by decide +kernel
theorem dX8_answer_44 : decode cX8_answer 44 = .ok (.iload_n 2, 1) := by decide +kernel
theorem dX8_answer_45 : decode cX8_answer 45 = .ok (.laload, 1) := by decide +kernel
theorem dX8_answer_46 : decode cX8_answer 46 = .ok (.aload_n 0, 1) := by decide +kernel
theorem dX8_answer_47 : decode cX8_answer 47 = .ok (.getfield 161, 3) := by decide +kernel
theorem dX8_answer_50 : decode cX8_answer 50 = .ok (.iload_n 3, 1) := by decide +kernel
theorem dX8_answer_51 : decode cX8_answer 51 = .ok (.invokestatic 203, 3) := by decide +kernel
theorem dX8_answer_54 : decode cX8_answer 54 = .ok (.lreturn, 1) := by decide +kernel
theorem dX8_worthOf_0 : decode cX8_worthOf 0 = .ok (.lconst 0, 1) := by decide +kernel
theorem dX8_worthOf_1 : decode cX8_worthOf 1 = .ok (.lstore_n 1, 1) := by decide +kernel
theorem dX8_worthOf_2 : decode cX8_worthOf 2 = .ok (.iconst 0, 1) := by decide +kernel
theorem dX8_worthOf_3 : decode cX8_worthOf 3 = .ok (.istore_n 3, 1) := by decide +kernel
theorem dX8_worthOf_4 : decode cX8_worthOf 4 = .ok (.iload_n 3, 1) := by decide +kernel
theorem dX8_worthOf_5 : decode cX8_worthOf 5 = .ok (.aload_n 0, 1) := by decide +kernel
theorem dX8_worthOf_6 : decode cX8_worthOf 6 = .ok (.getfield 7, 3) := by decide +kernel
theorem dX8_worthOf_9 : decode cX8_worthOf 9 = .ok (.if_icmp .ge 26, 3) := by decide +kernel
theorem dX8_worthOf_12 : decode cX8_worthOf 12 = .ok (.lload_n 1, 1) := by decide +kernel
theorem dX8_worthOf_13 : decode cX8_worthOf 13 = .ok (.aload_n 0, 1) := by decide +kernel
theorem dX8_worthOf_14 : decode cX8_worthOf 14 = .ok (.getfield 17, 3) := by decide +kernel
theorem dX8_worthOf_17 : decode cX8_worthOf 17 = .ok (.iload_n 3, 1) := by decide +kernel
theorem dX8_worthOf_18 : decode cX8_worthOf 18 = .ok (.iaload, 1) := by decide +kernel
theorem dX8_worthOf_19 : decode cX8_worthOf 19 = .ok (.i2l, 1) := by decide +kernel
theorem dX8_worthOf_20 : decode cX8_worthOf 20 = .ok (.aload_n 0, 1) := by decide +kernel
theorem dX8_worthOf_21 : decode cX8_worthOf 21 = .ok (.getfield 36, 3) := by decide +kernel
theorem dX8_worthOf_24 : decode cX8_worthOf 24 = .ok (.iload_n 3, 1) := by decide +kernel
theorem dX8_worthOf_25 : decode cX8_worthOf 25 = .ok (.laload, 1) := by decide +kernel
theorem dX8_worthOf_26 : decode cX8_worthOf 26 = .ok (.lmul, 1) := by decide +kernel
theorem dX8_worthOf_27 : decode cX8_worthOf 27 = .ok (.ladd, 1) := by decide +kernel
theorem dX8_worthOf_28 : decode cX8_worthOf 28 = .ok (.lstore_n 1, 1) := by decide +kernel
theorem dX8_worthOf_29 : decode cX8_worthOf 29 = .ok (.iinc 3 1, 3) := by decide +kernel
theorem dX8_worthOf_32 : decode cX8_worthOf 32 = .ok (.goto (-28), 3) := by decide +kernel
theorem dX8_worthOf_35 : decode cX8_worthOf 35 = .ok (.iconst 0, 1) := by decide +kernel
theorem dX8_worthOf_36 : decode cX8_worthOf 36 = .ok (.istore_n 3, 1) := by decide +kernel
theorem dX8_worthOf_37 : decode cX8_worthOf 37 = .ok (.iload_n 3, 1) := by decide +kernel
theorem dX8_worthOf_38 : decode cX8_worthOf 38 = .ok (.aload_n 0, 1) := by decide +kernel
theorem dX8_worthOf_39 : decode cX8_worthOf 39 = .ok (.getfield 88, 3) := by decide +kernel
theorem dX8_worthOf_42 : decode cX8_worthOf 42 = .ok (.if_icmp .ge 25, 3) := by decide +kernel
theorem dX8_worthOf_45 : decode cX8_worthOf 45 = .ok (.lload_n 1, 1) := by decide +kernel
theorem dX8_worthOf_46 : decode cX8_worthOf 46 = .ok (.aload_n 0, 1) := by decide +kernel
theorem dX8_worthOf_47 : decode cX8_worthOf 47 = .ok (.iload_n 3, 1) := by decide +kernel
theorem dX8_worthOf_48 : decode cX8_worthOf 48 = .ok (.invokevirtual 125, 3) := by decide +kernel
theorem dX8_worthOf_51 : decode cX8_worthOf 51 = .ok (.i2l, 1) := by decide +kernel
theorem dX8_worthOf_52 : decode cX8_worthOf 52 = .ok (.aload_n 0, 1) := by decide +kernel
theorem dX8_worthOf_53 : decode cX8_worthOf 53 = .ok (.getfield 39, 3) := by decide +kernel
theorem dX8_worthOf_56 : decode cX8_worthOf 56 = .ok (.iload_n 3, 1) := by decide +kernel
theorem dX8_worthOf_57 : decode cX8_worthOf 57 = .ok (.laload, 1) := by decide +kernel
theorem dX8_worthOf_58 : decode cX8_worthOf 58 = .ok (.lmul, 1) := by decide +kernel
theorem dX8_worthOf_59 : decode cX8_worthOf 59 = .ok (.lsub, 1) := by decide +kernel
theorem dX8_worthOf_60 : decode cX8_worthOf 60 = .ok (.lstore_n 1, 1) := by decide +kernel
theorem dX8_worthOf_61 : decode cX8_worthOf 61 = .ok (.iinc 3 1, 3) := by decide +kernel
theorem dX8_worthOf_64 : decode cX8_worthOf 64 = .ok (.goto (-27), 3) := by decide +kernel
theorem dX8_worthOf_67 : decode cX8_worthOf 67 = .ok (.lload_n 1, 1) := by decide +kernel
theorem dX8_worthOf_68 : decode cX8_worthOf 68 = .ok (.lreturn, 1) := by decide +kernel
theorem dX8_worth_0 : decode cX8_worth 0 = .ok (.aload_n 0, 1) := by decide +kernel
theorem dX8_worth_1 : decode cX8_worth 1 = .ok (.iload_n 1, 1) := by decide +kernel
theorem dX8_worth_2 : decode cX8_worth 2 = .ok (.iload_n 2, 1) := by decide +kernel
theorem dX8_worth_3 : decode cX8_worth 3 = .ok (.invokestatic 193, 3) := by decide +kernel
theorem dX8_worth_6 : decode cX8_worth 6 = .ok (.invokevirtual 196, 3) := by decide +kernel
theorem dX8_worth_9 : decode cX8_worth 9 = .ok (.istore_n 3, 1) := by decide +kernel
theorem dX8_worth_10 : decode cX8_worth 10 = .ok (.iload_n 3, 1) := by decide +kernel
theorem dX8_worth_11 : decode cX8_worth 11 = .ok (.ifCond .eq 10, 3) := by decide +kernel
theorem dX8_worth_14 : decode cX8_worth 14 = .ok (.iload_n 3, 1) := by decide +kernel
theorem dX8_worth_15 : decode cX8_worth 15 = .ok (.invokestatic 200, 3) := by decide +kernel
theorem dX8_worth_18 : decode cX8_worth 18 = .ok (.goto 19, 3) := by decide +kernel
theorem dX8_worth_21 : decode cX8_worth 21 = .ok (.aload_n 0, 1) := by decide +kernel
theorem dX8_worth_22 : decode cX8_worth 22 = .ok (.invokevirtual 207, 3) := by decide +kernel
theorem dX8_worth_25 : decode cX8_worth 25 = .ok (.ldc2_w 117, 3) := by decide +kernel
theorem dX8_worth_28 : decode cX8_worth 28 = .ok (.aload_n 0, 1) := by decide +kernel
theorem dX8_worth_29 : decode cX8_worth 29 = .ok (.getfield 161, 3) := by decide +kernel
theorem dX8_worth_32 : decode cX8_worth 32 = .ok (.lmul, 1) := by decide +kernel
theorem dX8_worth_33 : decode cX8_worth 33 = .ok (.iload_n 2, 1) := by decide +kernel
theorem dX8_worth_34 : decode cX8_worth 34 = .ok (.invokestatic 203, 3) := by decide +kernel
theorem dX8_worth_37 : decode cX8_worth 37 = .ok (.lreturn, 1) := by decide +kernel
theorem dX8_weight_0 : decode cX8_weight 0 = .ok (.aload_n 0, 1) := by decide +kernel
theorem dX8_weight_1 : decode cX8_weight 1 = .ok (.iload_n 1, 1) := by decide +kernel
theorem dX8_weight_2 : decode cX8_weight 2 = .ok (.aload_n 0, 1) := by decide +kernel
theorem dX8_weight_3 : decode cX8_weight 3 = .ok (.iload_n 2, 1) := by decide +kernel
theorem dX8_weight_4 : decode cX8_weight 4 = .ok (.invokevirtual 114, 3) := by decide +kernel
theorem dX8_weight_7 : decode cX8_weight 7 = .ok (.ifCond .eq 22, 3) := by decide +kernel
theorem dX8_weight_10 : decode cX8_weight 10 = .ok (.iload_n 1, 1) := by decide +kernel
theorem dX8_weight_11 : decode cX8_weight 11 = .ok (.iload_n 2, 1) := by decide +kernel
theorem dX8_weight_12 : decode cX8_weight 12 = .ok (.invokestatic 135, 3) := by decide +kernel
theorem dX8_weight_15 : decode cX8_weight 15 = .ok (.ifCond .eq 14, 3) := by decide +kernel
theorem dX8_weight_18 : decode cX8_weight 18 = .ok (.iload_n 3, 1) := by decide +kernel
theorem dX8_weight_19 : decode cX8_weight 19 = .ok (.invokestatic 193, 3) := by decide +kernel
theorem dX8_weight_22 : decode cX8_weight 22 = .ok (.ifCond .eq 7, 3) := by decide +kernel
theorem dX8_weight_25 : decode cX8_weight 25 = .ok (.iconst 1, 1) := by decide +kernel
theorem dX8_weight_26 : decode cX8_weight 26 = .ok (.goto 4, 3) := by decide +kernel
theorem dX8_weight_29 : decode cX8_weight 29 = .ok (.iconst 0, 1) := by decide +kernel
theorem dX8_weight_30 : decode cX8_weight 30 = .ok (.invokevirtual 196, 3) := by decide +kernel
theorem dX8_weight_33 : decode cX8_weight 33 = .ok (.istore 4, 2) := by decide +kernel
theorem dX8_weight_35 : decode cX8_weight 35 = .ok (.iload 4, 2) := by decide +kernel
theorem dX8_weight_37 : decode cX8_weight 37 = .ok (.ifCond .eq 11, 3) := by decide +kernel
theorem dX8_weight_40 : decode cX8_weight 40 = .ok (.iload 4, 2) := by decide +kernel
theorem dX8_weight_42 : decode cX8_weight 42 = .ok (.invokestatic 200, 3) := by decide +kernel
theorem dX8_weight_45 : decode cX8_weight 45 = .ok (.goto 17, 3) := by decide +kernel
theorem dX8_weight_48 : decode cX8_weight 48 = .ok (.aload_n 0, 1) := by decide +kernel
theorem dX8_weight_49 : decode cX8_weight 49 = .ok (.getfield 39, 3) := by decide +kernel
theorem dX8_weight_52 : decode cX8_weight 52 = .ok (.iload_n 2, 1) := by decide +kernel
theorem dX8_weight_53 : decode cX8_weight 53 = .ok (.laload, 1) := by decide +kernel
theorem dX8_weight_54 : decode cX8_weight 54 = .ok (.aload_n 0, 1) := by decide +kernel
theorem dX8_weight_55 : decode cX8_weight 55 = .ok (.getfield 161, 3) := by decide +kernel
theorem dX8_weight_58 : decode cX8_weight 58 = .ok (.iload_n 3, 1) := by decide +kernel
theorem dX8_weight_59 : decode cX8_weight 59 = .ok (.invokestatic 203, 3) := by decide +kernel
theorem dX8_weight_62 : decode cX8_weight 62 = .ok (.lreturn, 1) := by decide +kernel
theorem dX8_slack_0 : decode cX8_slack 0 = .ok (.aload_n 0, 1) := by decide +kernel
theorem dX8_slack_1 : decode cX8_slack 1 = .ok (.iload_n 1, 1) := by decide +kernel
theorem dX8_slack_2 : decode cX8_slack 2 = .ok (.aload_n 0, 1) := by decide +kernel
theorem dX8_slack_3 : decode cX8_slack 3 = .ok (.iload_n 2, 1) := by decide +kernel
theorem dX8_slack_4 : decode cX8_slack 4 = .ok (.invokevirtual 114, 3) := by decide +kernel
theorem dX8_slack_7 : decode cX8_slack 7 = .ok (.ifCond .eq 14, 3) := by decide +kernel
theorem dX8_slack_10 : decode cX8_slack 10 = .ok (.iload_n 3, 1) := by decide +kernel
theorem dX8_slack_11 : decode cX8_slack 11 = .ok (.invokestatic 193, 3) := by decide +kernel
end
section
theorem dX8_slack_14 : decode cX8_slack 14 = .ok (.ifCond .eq 7, 3) := by decide +kernel
theorem dX8_slack_17 : decode cX8_slack 17 = .ok (.iconst 1, 1) := by decide +kernel
theorem dX8_slack_18 : decode cX8_slack 18 = .ok (.goto 4, 3) := by decide +kernel
theorem dX8_slack_21 : decode cX8_slack 21 = .ok (.iconst 0, 1) := by decide +kernel
theorem dX8_slack_22 : decode cX8_slack 22 = .ok (.invokevirtual 196, 3) := by decide +kernel
theorem dX8_slack_25 : decode cX8_slack 25 = .ok (.istore 4, 2) := by decide +kernel
theorem dX8_slack_27 : decode cX8_slack 27 = .ok (.iload 4, 2) := by decide +kernel
theorem dX8_slack_29 : decode cX8_slack 29 = .ok (.ifCond .eq 11, 3) := by decide +kernel
theorem dX8_slack_32 : decode cX8_slack 32 = .ok (.iload 4, 2) := by decide +kernel
theorem dX8_slack_34 : decode cX8_slack 34 = .ok (.invokestatic 200, 3) := by decide +kernel
theorem dX8_slack_37 : decode cX8_slack 37 = .ok (.goto 16, 3) := by decide +kernel
theorem dX8_slack_40 : decode cX8_slack 40 = .ok (.aload_n 0, 1) := by decide +kernel
theorem dX8_slack_41 : decode cX8_slack 41 = .ok (.iload_n 2, 1) := by decide +kernel
theorem dX8_slack_42 : decode cX8_slack 42 = .ok (.invokevirtual 172, 3) := by decide +kernel
theorem dX8_slack_45 : decode cX8_slack 45 = .ok (.aload_n 0, 1) := by decide +kernel
theorem dX8_slack_46 : decode cX8_slack 46 = .ok (.getfield 161, 3) := by decide +kernel
theorem dX8_slack_49 : decode cX8_slack 49 = .ok (.iload_n 3, 1) := by decide +kernel
theorem dX8_slack_50 : decode cX8_slack 50 = .ok (.invokestatic 203, 3) := by decide +kernel
theorem dX8_slack_53 : decode cX8_slack 53 = .ok (.lreturn, 1) := by decide +kernel
theorem dX8_heldNow_0 : decode cX8_heldNow 0 = .ok (.iconst 0, 1) := by decide +kernel
theorem dX8_heldNow_1 : decode cX8_heldNow 1 = .ok (.istore_n 1, 1) := by decide +kernel
theorem dX8_heldNow_2 : decode cX8_heldNow 2 = .ok (.iconst 0, 1) := by decide +kernel
theorem dX8_heldNow_3 : decode cX8_heldNow 3 = .ok (.istore_n 2, 1) := by decide +kernel
theorem dX8_heldNow_4 : decode cX8_heldNow 4 = .ok (.iload_n 2, 1) := by decide +kernel
theorem dX8_heldNow_5 : decode cX8_heldNow 5 = .ok (.aload_n 0, 1) := by decide +kernel
theorem dX8_heldNow_6 : decode cX8_heldNow 6 = .ok (.getfield 88, 3) := by decide +kernel
theorem dX8_heldNow_9 : decode cX8_heldNow 9 = .ok (.if_icmp .ge 27, 3) := by decide +kernel
theorem dX8_heldNow_12 : decode cX8_heldNow 12 = .ok (.iload_n 1, 1) := by decide +kernel
theorem dX8_heldNow_13 : decode cX8_heldNow 13 = .ok (.aload_n 0, 1) := by decide +kernel
theorem dX8_heldNow_14 : decode cX8_heldNow 14 = .ok (.iload_n 2, 1) := by decide +kernel
theorem dX8_heldNow_15 : decode cX8_heldNow 15 = .ok (.invokevirtual 178, 3) := by decide +kernel
theorem dX8_heldNow_18 : decode cX8_heldNow 18 = .ok (.ifCond .eq 9, 3) := by decide +kernel
theorem dX8_heldNow_21 : decode cX8_heldNow 21 = .ok (.iconst 1, 1) := by decide +kernel
theorem dX8_heldNow_22 : decode cX8_heldNow 22 = .ok (.iload_n 2, 1) := by decide +kernel
theorem dX8_heldNow_23 : decode cX8_heldNow 23 = .ok (.ishl, 1) := by decide +kernel
theorem dX8_heldNow_24 : decode cX8_heldNow 24 = .ok (.goto 4, 3) := by decide +kernel
theorem dX8_heldNow_27 : decode cX8_heldNow 27 = .ok (.iconst 0, 1) := by decide +kernel
theorem dX8_heldNow_28 : decode cX8_heldNow 28 = .ok (.ior, 1) := by decide +kernel
theorem dX8_heldNow_29 : decode cX8_heldNow 29 = .ok (.istore_n 1, 1) := by decide +kernel
theorem dX8_heldNow_30 : decode cX8_heldNow 30 = .ok (.iinc 2 1, 3) := by decide +kernel
theorem dX8_heldNow_33 : decode cX8_heldNow 33 = .ok (.goto (-29), 3) := by decide +kernel
theorem dX8_heldNow_36 : decode cX8_heldNow 36 = .ok (.iload_n 1, 1) := by decide +kernel
theorem dX8_heldNow_37 : decode cX8_heldNow 37 = .ok (.ireturn, 1) := by decide +kernel
theorem dX8_held_0 : decode cX8_held 0 = .ok (.aload_n 0, 1) := by decide +kernel
theorem dX8_held_1 : decode cX8_held 1 = .ok (.iload_n 1, 1) := by decide +kernel
theorem dX8_held_2 : decode cX8_held 2 = .ok (.iconst 1, 1) := by decide +kernel
theorem dX8_held_3 : decode cX8_held 3 = .ok (.invokevirtual 196, 3) := by decide +kernel
theorem dX8_held_6 : decode cX8_held 6 = .ok (.istore_n 2, 1) := by decide +kernel
theorem dX8_held_7 : decode cX8_held 7 = .ok (.iload_n 2, 1) := by decide +kernel
theorem dX8_held_8 : decode cX8_held 8 = .ok (.ifCond .eq 7, 3) := by decide +kernel
theorem dX8_held_11 : decode cX8_held 11 = .ok (.iload_n 2, 1) := by decide +kernel
theorem dX8_held_12 : decode cX8_held 12 = .ok (.goto 7, 3) := by decide +kernel
theorem dX8_held_15 : decode cX8_held 15 = .ok (.aload_n 0, 1) := by decide +kernel
theorem dX8_held_16 : decode cX8_held 16 = .ok (.invokevirtual 210, 3) := by decide +kernel
theorem dX8_held_19 : decode cX8_held 19 = .ok (.ireturn, 1) := by decide +kernel
theorem dX8_tight_0 : decode cX8_tight 0 = .ok (.aload_n 0, 1) := by decide +kernel
theorem dX8_tight_1 : decode cX8_tight 1 = .ok (.iload_n 1, 1) := by decide +kernel
theorem dX8_tight_2 : decode cX8_tight 2 = .ok (.iconst 1, 1) := by decide +kernel
theorem dX8_tight_3 : decode cX8_tight 3 = .ok (.invokevirtual 196, 3) := by decide +kernel
theorem dX8_tight_6 : decode cX8_tight 6 = .ok (.istore_n 2, 1) := by decide +kernel
theorem dX8_tight_7 : decode cX8_tight 7 = .ok (.iconst 0, 1) := by decide +kernel
theorem dX8_tight_8 : decode cX8_tight 8 = .ok (.istore_n 3, 1) := by decide +kernel
theorem dX8_tight_9 : decode cX8_tight 9 = .ok (.iconst 0, 1) := by decide +kernel
theorem dX8_tight_10 : decode cX8_tight 10 = .ok (.istore 4, 2) := by decide +kernel
theorem dX8_tight_12 : decode cX8_tight 12 = .ok (.iload 4, 2) := by decide +kernel
theorem dX8_tight_14 : decode cX8_tight 14 = .ok (.aload_n 0, 1) := by decide +kernel
theorem dX8_tight_15 : decode cX8_tight 15 = .ok (.getfield 88, 3) := by decide +kernel
theorem dX8_tight_18 : decode cX8_tight 18 = .ok (.if_icmp .ge 35, 3) := by decide +kernel
theorem dX8_tight_21 : decode cX8_tight 21 = .ok (.iload_n 2, 1) := by decide +kernel
theorem dX8_tight_22 : decode cX8_tight 22 = .ok (.ifCond .ne 31, 3) := by decide +kernel
theorem dX8_tight_25 : decode cX8_tight 25 = .ok (.iload_n 3, 1) := by decide +kernel
theorem dX8_tight_26 : decode cX8_tight 26 = .ok (.aload_n 0, 1) := by decide +kernel
theorem dX8_tight_27 : decode cX8_tight 27 = .ok (.iload 4, 2) := by decide +kernel
theorem dX8_tight_29 : decode cX8_tight 29 = .ok (.invokevirtual 172, 3) := by decide +kernel
theorem dX8_tight_32 : decode cX8_tight 32 = .ok (.lconst 0, 1) := by decide +kernel
theorem dX8_tight_33 : decode cX8_tight 33 = .ok (.lcmp, 1) := by decide +kernel
theorem dX8_tight_34 : decode cX8_tight 34 = .ok (.ifCond .ne 10, 3) := by decide +kernel
theorem dX8_tight_37 : decode cX8_tight 37 = .ok (.iconst 1, 1) := by decide +kernel
theorem dX8_tight_38 : decode cX8_tight 38 = .ok (.iload 4, 2) := by decide +kernel
theorem dX8_tight_40 : decode cX8_tight 40 = .ok (.ishl, 1) := by decide +kernel
theorem dX8_tight_41 : decode cX8_tight 41 = .ok (.goto 4, 3) := by decide +kernel
theorem dX8_tight_44 : decode cX8_tight 44 = .ok (.iconst 0, 1) := by decide +kernel
theorem dX8_tight_45 : decode cX8_tight 45 = .ok (.ior, 1) := by decide +kernel
theorem dX8_tight_46 : decode cX8_tight 46 = .ok (.istore_n 3, 1) := by decide +kernel
theorem dX8_tight_47 : decode cX8_tight 47 = .ok (.iinc 4 1, 3) := by decide +kernel
theorem dX8_tight_50 : decode cX8_tight 50 = .ok (.goto (-38), 3) := by decide +kernel
theorem dX8_tight_53 : decode cX8_tight 53 = .ok (.iload_n 2, 1) := by decide +kernel
theorem dX8_tight_54 : decode cX8_tight 54 = .ok (.ifCond .eq 7, 3) := by decide +kernel
theorem dX8_tight_57 : decode cX8_tight 57 = .ok (.iload_n 2, 1) := by decide +kernel
theorem dX8_tight_58 : decode cX8_tight 58 = .ok (.goto 4, 3) := by decide +kernel
theorem dX8_tight_61 : decode cX8_tight 61 = .ok (.iload_n 3, 1) := by decide +kernel
theorem dX8_tight_62 : decode cX8_tight 62 = .ok (.ireturn, 1) := by decide +kernel
theorem dX8_walks_0 : decode cX8_walks 0 = .ok (.iconst 0, 1) := by decide +kernel
theorem dX8_walks_1 : decode cX8_walks 1 = .ok (.istore_n 1, 1) := by decide +kernel
theorem dX8_walks_2 : decode cX8_walks 2 = .ok (.aload_n 0, 1) := by decide +kernel
theorem dX8_walks_3 : decode cX8_walks 3 = .ok (.iconst 0, 1) := by decide +kernel
theorem dX8_walks_4 : decode cX8_walks 4 = .ok (.putfield 214, 3) := by decide +kernel
theorem dX8_walks_7 : decode cX8_walks 7 = .ok (.iload_n 1, 1) := by decide +kernel
theorem dX8_walks_8 : decode cX8_walks 8 = .ok (.iconst (-1), 1) := by decide +kernel
theorem dX8_walks_9 : decode cX8_walks 9 = .ok (.if_icmp .eq 76, 3) := by decide +kernel
theorem dX8_walks_12 : decode cX8_walks 12 = .ok (.aload_n 0, 1) := by decide +kernel
theorem dX8_walks_13 : decode cX8_walks 13 = .ok (.getfield 54, 3) := by decide +kernel
theorem dX8_walks_16 : decode cX8_walks 16 = .ok (.aload_n 0, 1) := by decide +kernel
theorem dX8_walks_17 : decode cX8_walks 17 = .ok (.getfield 214, 3) := by decide +kernel
theorem dX8_walks_20 : decode cX8_walks 20 = .ok (.iload_n 1, 1) := by decide +kernel
theorem dX8_walks_21 : decode cX8_walks 21 = .ok (.iastore, 1) := by decide +kernel
theorem dX8_walks_22 : decode cX8_walks 22 = .ok (.aload_n 0, 1) := by decide +kernel
theorem dX8_walks_23 : decode cX8_walks 23 = .ok (.dup, 1) := by decide +kernel
theorem dX8_walks_24 : decode cX8_walks 24 = .ok (.getfield 214, 3) := by decide +kernel
theorem dX8_walks_27 : decode cX8_walks 27 = .ok (.iconst 1, 1) := by decide +kernel
theorem dX8_walks_28 : decode cX8_walks 28 = .ok (.iadd, 1) := by decide +kernel
theorem dX8_walks_29 : decode cX8_walks 29 = .ok (.putfield 214, 3) := by decide +kernel
theorem dX8_walks_32 : decode cX8_walks 32 = .ok (.aload_n 0, 1) := by decide +kernel
theorem dX8_walks_33 : decode cX8_walks 33 = .ok (.iload_n 1, 1) := by decide +kernel
theorem dX8_walks_34 : decode cX8_walks 34 = .ok (.invokevirtual 181, 3) := by decide +kernel
theorem dX8_walks_37 : decode cX8_walks 37 = .ok (.pop, 1) := by decide +kernel
theorem dX8_walks_38 : decode cX8_walks 38 = .ok (.iconst 0, 1) := by decide +kernel
theorem dX8_walks_39 : decode cX8_walks 39 = .ok (.istore_n 2, 1) := by decide +kernel
theorem dX8_walks_40 : decode cX8_walks 40 = .ok (.iload_n 2, 1) := by decide +kernel
theorem dX8_walks_41 : decode cX8_walks 41 = .ok (.aload_n 0, 1) := by decide +kernel
theorem dX8_walks_42 : decode cX8_walks 42 = .ok (.getfield 88, 3) := by decide +kernel
theorem dX8_walks_45 : decode cX8_walks 45 = .ok (.if_icmp .ge 17, 3) := by decide +kernel
theorem dX8_walks_48 : decode cX8_walks 48 = .ok (.aload_n 0, 1) := by decide +kernel
theorem dX8_walks_49 : decode cX8_walks 49 = .ok (.iload_n 2, 1) := by decide +kernel
theorem dX8_walks_50 : decode cX8_walks 50 = .ok (.invokevirtual 178, 3) := by decide +kernel
theorem dX8_walks_53 : decode cX8_walks 53 = .ok (.ifCond .eq 9, 3) := by decide +kernel
theorem dX8_walks_56 : decode cX8_walks 56 = .ok (.iinc 2 1, 3) := by decide +kernel
theorem dX8_walks_59 : decode cX8_walks 59 = .ok (.goto (-19), 3) := by decide +kernel
theorem dX8_walks_62 : decode cX8_walks 62 = .ok (.iload_n 2, 1) := by decide +kernel
theorem dX8_walks_63 : decode cX8_walks 63 = .ok (.aload_n 0, 1) := by decide +kernel
theorem dX8_walks_64 : decode cX8_walks 64 = .ok (.getfield 88, 3) := by decide +kernel
theorem dX8_walks_67 : decode cX8_walks 67 = .ok (.if_icmp .ne 5, 3) := by decide +kernel
theorem dX8_walks_70 : decode cX8_walks 70 = .ok (.iconst 1, 1) := by decide +kernel
theorem dX8_walks_71 : decode cX8_walks 71 = .ok (.ireturn, 1) := by decide +kernel
theorem dX8_walks_72 : decode cX8_walks 72 = .ok (.aload_n 0, 1) := by decide +kernel
theorem dX8_walks_73 : decode cX8_walks 73 = .ok (.iload_n 1, 1) := by decide +kernel
theorem dX8_walks_74 : decode cX8_walks 74 = .ok (.iconst 1, 1) := by decide +kernel
theorem dX8_walks_75 : decode cX8_walks 75 = .ok (.iload_n 2, 1) := by decide +kernel
theorem dX8_walks_76 : decode cX8_walks 76 = .ok (.ishl, 1) := by decide +kernel
theorem dX8_walks_77 : decode cX8_walks 77 = .ok (.ior, 1) := by decide +kernel
theorem dX8_walks_78 : decode cX8_walks 78 = .ok (.invokevirtual 190, 3) := by decide +kernel
theorem dX8_walks_81 : decode cX8_walks 81 = .ok (.istore_n 1, 1) := by decide +kernel
theorem dX8_walks_82 : decode cX8_walks 82 = .ok (.goto (-75), 3) := by decide +kernel
theorem dX8_walks_85 : decode cX8_walks 85 = .ok (.iconst 0, 1) := by decide +kernel
theorem dX8_walks_86 : decode cX8_walks 86 = .ok (.ireturn, 1) := by decide +kernel
theorem dX8_steps_0 : decode cX8_steps 0 = .ok (.aload_n 0, 1) := by decide +kernel
theorem dX8_steps_1 : decode cX8_steps 1 = .ok (.invokevirtual 146, 3) := by decide +kernel
theorem dX8_steps_4 : decode cX8_steps 4 = .ok (.ifCond .ne 8, 3) := by decide +kernel
theorem dX8_steps_7 : decode cX8_steps 7 = .ok (.bipush (-3), 2) := by decide +kernel
theorem dX8_steps_9 : decode cX8_steps 9 = .ok (.goto 20, 3) := by decide +kernel
theorem dX8_steps_12 : decode cX8_steps 12 = .ok (.aload_n 0, 1) := by decide +kernel
theorem dX8_steps_13 : decode cX8_steps 13 = .ok (.invokevirtual 217, 3) := by decide +kernel
theorem dX8_steps_16 : decode cX8_steps 16 = .ok (.ifCond .eq 12, 3) := by decide +kernel
theorem dX8_steps_19 : decode cX8_steps 19 = .ok (.aload_n 0, 1) := by decide +kernel
theorem dX8_steps_20 : decode cX8_steps 20 = .ok (.getfield 214, 3) := by decide +kernel
theorem dX8_steps_23 : decode cX8_steps 23 = .ok (.iconst 1, 1) := by decide +kernel
theorem dX8_steps_24 : decode cX8_steps 24 = .ok (.isub, 1) := by decide +kernel
theorem dX8_steps_25 : decode cX8_steps 25 = .ok (.goto 4, 3) := by decide +kernel
theorem dX8_steps_28 : decode cX8_steps 28 = .ok (.iconst (-1), 1) := by decide +kernel
theorem dX8_steps_29 : decode cX8_steps 29 = .ok (.ireturn, 1) := by decide +kernel
theorem dX8_walk_0 : decode cX8_walk 0 = .ok (.aload_n 0, 1) := by decide +kernel
theorem dX8_walk_1 : decode cX8_walk 1 = .ok (.invokevirtual 146, 3) := by decide +kernel
theorem dX8_walk_4 : decode cX8_walk 4 = .ok (.ifCond .ne 6, 3) := by decide +kernel
theorem dX8_walk_7 : decode cX8_walk 7 = .ok (.bipush (-3), 2) := by decide +kernel
theorem dX8_walk_9 : decode cX8_walk 9 = .ok (.ireturn, 1) := by decide +kernel
theorem dX8_walk_10 : decode cX8_walk 10 = .ok (.aload_n 0, 1) := by decide +kernel
theorem dX8_walk_11 : decode cX8_walk 11 = .ok (.invokevirtual 217, 3) := by decide +kernel
theorem dX8_walk_14 : decode cX8_walk 14 = .ok (.pop, 1) := by decide +kernel
theorem dX8_walk_15 : decode cX8_walk 15 = .ok (.iload_n 1, 1) := by decide +kernel
theorem dX8_walk_16 : decode cX8_walk 16 = .ok (.i2l, 1) := by decide +kernel
theorem dX8_walk_17 : decode cX8_walk 17 = .ok (.lconst 0, 1) := by decide +kernel
theorem dX8_walk_18 : decode cX8_walk 18 = .ok (.aload_n 0, 1) := by decide +kernel
theorem dX8_walk_19 : decode cX8_walk 19 = .ok (.getfield 214, 3) := by decide +kernel
theorem dX8_walk_22 : decode cX8_walk 22 = .ok (.iconst 1, 1) := by decide +kernel
theorem dX8_walk_23 : decode cX8_walk 23 = .ok (.isub, 1) := by decide +kernel
theorem dX8_walk_24 : decode cX8_walk 24 = .ok (.i2l, 1) := by decide +kernel
theorem dX8_walk_25 : decode cX8_walk 25 = .ok (.invokestatic 84, 3) := by decide +kernel
theorem dX8_walk_28 : decode cX8_walk 28 = .ok (.ifCond .eq 12, 3) := by decide +kernel
theorem dX8_walk_31 : decode cX8_walk 31 = .ok (.aload_n 0, 1) := by decide +kernel
theorem dX8_walk_32 : decode cX8_walk 32 = .ok (.getfield 54, 3) := by decide +kernel
theorem dX8_walk_35 : decode cX8_walk 35 = .ok (.iload_n 1, 1) := by decide +kernel
theorem dX8_walk_36 : decode cX8_walk 36 = .ok (.iaload, 1) := by decide +kernel
theorem dX8_walk_37 : decode cX8_walk 37 = .ok (.goto 5, 3) := by decide +kernel
theorem dX8_walk_40 : decode cX8_walk 40 = .ok (.bipush (-12), 2) := by decide +kernel
theorem dX8_walk_42 : decode cX8_walk 42 = .ok (.ireturn, 1) := by decide +kernel
theorem dX8_pieces_0 : decode cX8_pieces 0 = .ok (.iload_n 1, 1) := by decide +kernel
theorem dX8_pieces_1 : decode cX8_pieces 1 = .ok (.i2l, 1) := by decide +kernel
theorem dX8_pieces_2 : decode cX8_pieces 2 = .ok (.lconst 1, 1) := by decide +kernel
theorem dX8_pieces_3 : decode cX8_pieces 3 = .ok (.ldc2_w 110, 3) := by decide +kernel
theorem dX8_pieces_6 : decode cX8_pieces 6 = .ok (.invokestatic 84, 3) := by decide +kernel
theorem dX8_pieces_9 : decode cX8_pieces 9 = .ok (.ifCond .ne 6, 3) := by decide +kernel
theorem dX8_pieces_12 : decode cX8_pieces 12 = .ok (.bipush (-2), 2) := by decide +kernel
theorem dX8_pieces_14 : decode cX8_pieces 14 = .ok (.ireturn, 1) := by decide +kernel
theorem dX8_pieces_15 : decode cX8_pieces 15 = .ok (.aload_n 0, 1) := by decide +kernel
theorem dX8_pieces_16 : decode cX8_pieces 16 = .ok (.invokevirtual 146, 3) := by decide +kernel
theorem dX8_pieces_19 : decode cX8_pieces 19 = .ok (.ifCond .ne 6, 3) := by decide +kernel
theorem dX8_pieces_22 : decode cX8_pieces 22 = .ok (.bipush (-3), 2) := by decide +kernel
theorem dX8_pieces_24 : decode cX8_pieces 24 = .ok (.ireturn, 1) := by decide +kernel
theorem dX8_pieces_25 : decode cX8_pieces 25 = .ok (.aload_n 0, 1) := by decide +kernel
theorem dX8_pieces_26 : decode cX8_pieces 26 = .ok (.getfield 93, 3) := by decide +kernel
theorem dX8_pieces_29 : decode cX8_pieces 29 = .ok (.istore_n 2, 1) := by decide +kernel
theorem dX8_pieces_30 : decode cX8_pieces 30 = .ok (.aload_n 0, 1) := by decide +kernel
theorem dX8_pieces_31 : decode cX8_pieces 31 = .ok (.iconst 0, 1) := by decide +kernel
theorem dX8_pieces_32 : decode cX8_pieces 32 = .ok (.putfield 93, 3) := by decide +kernel
theorem dX8_pieces_35 : decode cX8_pieces 35 = .ok (.aload_n 0, 1) := by decide +kernel
theorem dX8_pieces_36 : decode cX8_pieces 36 = .ok (.aload_n 0, 1) := by decide +kernel
theorem dX8_pieces_37 : decode cX8_pieces 37 = .ok (.invokevirtual 220, 3) := by decide +kernel
theorem dX8_pieces_40 : decode cX8_pieces 40 = .ok (.invokevirtual 190, 3) := by decide +kernel
theorem dX8_pieces_43 : decode cX8_pieces 43 = .ok (.istore_n 3, 1) := by decide +kernel
theorem dX8_pieces_44 : decode cX8_pieces 44 = .ok (.iconst 0, 1) := by decide +kernel
theorem dX8_pieces_45 : decode cX8_pieces 45 = .ok (.istore 4, 2) := by decide +kernel
theorem dX8_pieces_47 : decode cX8_pieces 47 = .ok (.iconst 1, 1) := by decide +kernel
theorem dX8_pieces_48 : decode cX8_pieces 48 = .ok (.istore 5, 2) := by decide +kernel
theorem dX8_pieces_50 : decode cX8_pieces 50 = .ok (.iload 5, 2) := by decide +kernel
theorem dX8_pieces_52 : decode cX8_pieces 52 = .ok (.iload_n 1, 1) := by decide +kernel
theorem dX8_pieces_53 : decode cX8_pieces 53 = .ok (.if_icmp .gt 44, 3) := by decide +kernel
theorem dX8_pieces_56 : decode cX8_pieces 56 = .ok (.aload_n 0, 1) := by decide +kernel
theorem dX8_pieces_57 : decode cX8_pieces 57 = .ok (.iload 5, 2) := by decide +kernel
theorem dX8_pieces_59 : decode cX8_pieces 59 = .ok (.putfield 93, 3) := by decide +kernel
theorem dX8_pieces_62 : decode cX8_pieces 62 = .ok (.aload_n 0, 1) := by decide +kernel
theorem dX8_pieces_63 : decode cX8_pieces 63 = .ok (.aload_n 0, 1) := by decide +kernel
theorem dX8_pieces_64 : decode cX8_pieces 64 = .ok (.invokevirtual 220, 3) := by decide +kernel
theorem dX8_pieces_67 : decode cX8_pieces 67 = .ok (.invokevirtual 190, 3) := by decide +kernel
theorem dX8_pieces_70 : decode cX8_pieces 70 = .ok (.istore 6, 2) := by decide +kernel
theorem dX8_pieces_72 : decode cX8_pieces 72 = .ok (.iload 4, 2) := by decide +kernel
theorem dX8_pieces_74 : decode cX8_pieces 74 = .ok (.iload 6, 2) := by decide +kernel
theorem dX8_pieces_76 : decode cX8_pieces 76 = .ok (.iload_n 3, 1) := by decide +kernel
theorem dX8_pieces_77 : decode cX8_pieces 77 = .ok (.if_icmp .ne 7, 3) := by decide +kernel
theorem dX8_pieces_80 : decode cX8_pieces 80 = .ok (.iconst 0, 1) := by decide +kernel
theorem dX8_pieces_81 : decode cX8_pieces 81 = .ok (.goto 4, 3) := by decide +kernel
theorem dX8_pieces_84 : decode cX8_pieces 84 = .ok (.iconst 1, 1) := by decide +kernel
theorem dX8_pieces_85 : decode cX8_pieces 85 = .ok (.iadd, 1) := by decide +kernel
theorem dX8_pieces_86 : decode cX8_pieces 86 = .ok (.istore 4, 2) := by decide +kernel
theorem dX8_pieces_88 : decode cX8_pieces 88 = .ok (.iload 6, 2) := by decide +kernel
theorem dX8_pieces_90 : decode cX8_pieces 90 = .ok (.istore_n 3, 1) := by decide +kernel
theorem dX8_pieces_91 : decode cX8_pieces 91 = .ok (.iinc 5 1, 3) := by decide +kernel
theorem dX8_pieces_94 : decode cX8_pieces 94 = .ok (.goto (-44), 3) := by decide +kernel
theorem dX8_pieces_97 : decode cX8_pieces 97 = .ok (.aload_n 0, 1) := by decide +kernel
theorem dX8_pieces_98 : decode cX8_pieces 98 = .ok (.iload_n 2, 1) := by decide +kernel
theorem dX8_pieces_99 : decode cX8_pieces 99 = .ok (.putfield 93, 3) := by decide +kernel
theorem dX8_pieces_102 : decode cX8_pieces 102 = .ok (.iload 4, 2) := by decide +kernel
theorem dX8_pieces_104 : decode cX8_pieces 104 = .ok (.ireturn, 1) := by decide +kernel
theorem dX8_bounds_0 : decode cX8_bounds 0 = .ok (.lload_n 3, 1) := by decide +kernel
theorem dX8_bounds_1 : decode cX8_bounds 1 = .ok (.lconst 0, 1) := by decide +kernel
theorem dX8_bounds_2 : decode cX8_bounds 2 = .ok (.lcmp, 1) := by decide +kernel
theorem dX8_bounds_3 : decode cX8_bounds 3 = .ok (.ifCond .ge 43, 3) := by decide +kernel
theorem dX8_bounds_6 : decode cX8_bounds 6 = .ok (.aload_n 0, 1) := by decide +kernel
theorem dX8_bounds_7 : decode cX8_bounds 7 = .ok (.getfield 223, 3) := by decide +kernel
theorem dX8_bounds_10 : decode cX8_bounds 10 = .ok (.ifCond .eq 20, 3) := by decide +kernel
theorem dX8_bounds_13 : decode cX8_bounds 13 = .ok (.lload_n 1, 1) := by decide +kernel
theorem dX8_bounds_14 : decode cX8_bounds 14 = .ok (.lload_n 3, 1) := by decide +kernel
theorem dX8_bounds_15 : decode cX8_bounds 15 = .ok (.lneg, 1) := by decide +kernel
theorem dX8_bounds_16 : decode cX8_bounds 16 = .ok (.aload_n 0, 1) := by decide +kernel
theorem dX8_bounds_17 : decode cX8_bounds 17 = .ok (.getfield 227, 3) := by decide +kernel
theorem dX8_bounds_20 : decode cX8_bounds 20 = .ok (.aload_n 0, 1) := by decide +kernel
theorem dX8_bounds_21 : decode cX8_bounds 21 = .ok (.getfield 230, 3) := by decide +kernel
theorem dX8_bounds_24 : decode cX8_bounds 24 = .ok (.invokestatic 80, 3) := by decide +kernel
theorem dX8_bounds_27 : decode cX8_bounds 27 = .ok (.ifCond .eq 19, 3) := by decide +kernel
theorem dX8_bounds_30 : decode cX8_bounds 30 = .ok (.aload_n 0, 1) := by decide +kernel
theorem dX8_bounds_31 : decode cX8_bounds 31 = .ok (.iconst 1, 1) := by decide +kernel
theorem dX8_bounds_32 : decode cX8_bounds 32 = .ok (.putfield 223, 3) := by decide +kernel
theorem dX8_bounds_35 : decode cX8_bounds 35 = .ok (.aload_n 0, 1) := by decide +kernel
theorem dX8_bounds_36 : decode cX8_bounds 36 = .ok (.lload_n 1, 1) := by decide +kernel
theorem dX8_bounds_37 : decode cX8_bounds 37 = .ok (.putfield 227, 3) := by decide +kernel
theorem dX8_bounds_40 : decode cX8_bounds 40 = .ok (.aload_n 0, 1) := by decide +kernel
theorem dX8_bounds_41 : decode cX8_bounds 41 = .ok (.lload_n 3, 1) := by decide +kernel
theorem dX8_bounds_42 : decode cX8_bounds 42 = .ok (.lneg, 1) := by decide +kernel
theorem dX8_bounds_43 : decode cX8_bounds 43 = .ok (.putfield 230, 3) := by decide +kernel
theorem dX8_bounds_46 : decode cX8_bounds 46 = .ok (.return_, 1) := by decide +kernel
theorem dX8_reach_0 : decode cX8_reach 0 = .ok (.iload_n 1, 1) := by decide +kernel
theorem dX8_reach_1 : decode cX8_reach 1 = .ok (.invokestatic 193, 3) := by decide +kernel
theorem dX8_reach_4 : decode cX8_reach 4 = .ok (.ifCond .ne 9, 3) := by decide +kernel
theorem dX8_reach_7 : decode cX8_reach 7 = .ok (.bipush (-2), 2) := by decide +kernel
theorem dX8_reach_9 : decode cX8_reach 9 = .ok (.invokestatic 200, 3) := by decide +kernel
theorem dX8_reach_12 : decode cX8_reach 12 = .ok (.lreturn, 1) := by decide +kernel
theorem dX8_reach_13 : decode cX8_reach 13 = .ok (.aload_n 0, 1) := by decide +kernel
theorem dX8_reach_14 : decode cX8_reach 14 = .ok (.invokevirtual 146, 3) := by decide +kernel
theorem dX8_reach_17 : decode cX8_reach 17 = .ok (.ifCond .ne 9, 3) := by decide +kernel
theorem dX8_reach_20 : decode cX8_reach 20 = .ok (.bipush (-3), 2) := by decide +kernel
theorem dX8_reach_22 : decode cX8_reach 22 = .ok (.invokestatic 200, 3) := by decide +kernel
theorem dX8_reach_25 : decode cX8_reach 25 = .ok (.lreturn, 1) := by decide +kernel
theorem dX8_reach_26 : decode cX8_reach 26 = .ok (.aload_n 0, 1) := by decide +kernel
theorem dX8_reach_27 : decode cX8_reach 27 = .ok (.aload_n 0, 1) := by decide +kernel
theorem dX8_reach_28 : decode cX8_reach 28 = .ok (.invokevirtual 220, 3) := by decide +kernel
theorem dX8_reach_31 : decode cX8_reach 31 = .ok (.invokevirtual 190, 3) := by decide +kernel
theorem dX8_reach_34 : decode cX8_reach 34 = .ok (.istore_n 2, 1) := by decide +kernel
theorem dX8_reach_35 : decode cX8_reach 35 = .ok (.iload_n 2, 1) := by decide +kernel
theorem dX8_reach_36 : decode cX8_reach 36 = .ok (.iconst (-1), 1) := by decide +kernel
theorem dX8_reach_37 : decode cX8_reach 37 = .ok (.if_icmp .ne 8, 3) := by decide +kernel
theorem dX8_reach_40 : decode cX8_reach 40 = .ok (.iconst (-1), 1) := by decide +kernel
theorem dX8_reach_41 : decode cX8_reach 41 = .ok (.invokestatic 200, 3) := by decide +kernel
theorem dX8_reach_44 : decode cX8_reach 44 = .ok (.lreturn, 1) := by decide +kernel
theorem dX8_reach_45 : decode cX8_reach 45 = .ok (.aload_n 0, 1) := by decide +kernel
theorem dX8_reach_46 : decode cX8_reach 46 = .ok (.iload_n 2, 1) := by decide +kernel
theorem dX8_reach_47 : decode cX8_reach 47 = .ok (.invokevirtual 233, 3) := by decide +kernel
theorem dX8_reach_50 : decode cX8_reach 50 = .ok (.aload_n 0, 1) := by decide +kernel
theorem dX8_reach_51 : decode cX8_reach 51 = .ok (.iconst 0, 1) := by decide +kernel
theorem dX8_reach_52 : decode cX8_reach 52 = .ok (.putfield 223, 3) := by decide +kernel
theorem dX8_reach_55 : decode cX8_reach 55 = .ok (.iconst 0, 1) := by decide +kernel
theorem dX8_reach_56 : decode cX8_reach 56 = .ok (.istore_n 3, 1) := by decide +kernel
theorem dX8_reach_57 : decode cX8_reach 57 = .ok (.iload_n 3, 1) := by decide +kernel
theorem dX8_reach_58 : decode cX8_reach 58 = .ok (.aload_n 0, 1) := by decide +kernel
theorem dX8_reach_59 : decode cX8_reach 59 = .ok (.getfield 88, 3) := by decide +kernel
theorem dX8_reach_62 : decode cX8_reach 62 = .ok (.if_icmp .ge 112, 3) := by decide +kernel
theorem dX8_reach_65 : decode cX8_reach 65 = .ok (.aload_n 0, 1) := by decide +kernel
theorem dX8_reach_66 : decode cX8_reach 66 = .ok (.iload_n 3, 1) := by decide +kernel
theorem dX8_reach_67 : decode cX8_reach 67 = .ok (.invokevirtual 169, 3) := by decide +kernel
theorem dX8_reach_70 : decode cX8_reach 70 = .ok (.i2l, 1) := by decide +kernel
theorem dX8_reach_71 : decode cX8_reach 71 = .ok (.aload_n 0, 1) := by decide +kernel
theorem dX8_reach_72 : decode cX8_reach 72 = .ok (.getfield 161, 3) := by decide +kernel
theorem dX8_reach_75 : decode cX8_reach 75 = .ok (.lmul, 1) := by decide +kernel
theorem dX8_reach_76 : decode cX8_reach 76 = .ok (.lstore 4, 2) := by decide +kernel
theorem dX8_reach_78 : decode cX8_reach 78 = .ok (.iconst 0, 1) := by decide +kernel
theorem dX8_reach_79 : decode cX8_reach 79 = .ok (.istore 6, 2) := by decide +kernel
theorem dX8_reach_81 : decode cX8_reach 81 = .ok (.iload 6, 2) := by decide +kernel
theorem dX8_reach_83 : decode cX8_reach 83 = .ok (.aload_n 0, 1) := by decide +kernel
theorem dX8_reach_84 : decode cX8_reach 84 = .ok (.getfield 7, 3) := by decide +kernel
theorem dX8_reach_87 : decode cX8_reach 87 = .ok (.if_icmp .ge 30, 3) := by decide +kernel
theorem dX8_reach_90 : decode cX8_reach 90 = .ok (.lload 4, 2) := by decide +kernel
theorem dX8_reach_92 : decode cX8_reach 92 = .ok (.aload_n 0, 1) := by decide +kernel
theorem dX8_reach_93 : decode cX8_reach 93 = .ok (.iload_n 3, 1) := by decide +kernel
theorem dX8_reach_94 : decode cX8_reach 94 = .ok (.iload 6, 2) := by decide +kernel
theorem dX8_reach_96 : decode cX8_reach 96 = .ok (.invokevirtual 129, 3) := by decide +kernel
theorem dX8_reach_99 : decode cX8_reach 99 = .ok (.i2l, 1) := by decide +kernel
theorem dX8_reach_100 : decode cX8_reach 100 = .ok (.aload_n 0, 1) := by decide +kernel
theorem dX8_reach_101 : decode cX8_reach 101 = .ok (.getfield 42, 3) := by decide +kernel
theorem dX8_reach_104 : decode cX8_reach 104 = .ok (.iload 6, 2) := by decide +kernel
theorem dX8_reach_106 : decode cX8_reach 106 = .ok (.laload, 1) := by decide +kernel
theorem dX8_reach_107 : decode cX8_reach 107 = .ok (.lmul, 1) := by decide +kernel
theorem dX8_reach_108 : decode cX8_reach 108 = .ok (.lsub, 1) := by decide +kernel
theorem dX8_reach_109 : decode cX8_reach 109 = .ok (.lstore 4, 2) := by decide +kernel
theorem dX8_reach_111 : decode cX8_reach 111 = .ok (.iinc 6 1, 3) := by decide +kernel
theorem dX8_reach_114 : decode cX8_reach 114 = .ok (.goto (-33), 3) := by decide +kernel
theorem dX8_reach_117 : decode cX8_reach 117 = .ok (.aload_n 0, 1) := by decide +kernel
theorem dX8_reach_118 : decode cX8_reach 118 = .ok (.aload_n 0, 1) := by decide +kernel
theorem dX8_reach_119 : decode cX8_reach 119 = .ok (.iload_n 3, 1) := by decide +kernel
theorem dX8_reach_120 : decode cX8_reach 120 = .ok (.invokevirtual 172, 3) := by decide +kernel
theorem dX8_reach_123 : decode cX8_reach 123 = .ok (.lload 4, 2) := by decide +kernel
theorem dX8_reach_125 : decode cX8_reach 125 = .ok (.invokevirtual 236, 3) := by decide +kernel
theorem dX8_reach_128 : decode cX8_reach 128 = .ok (.aload_n 0, 1) := by decide +kernel
theorem dX8_reach_129 : decode cX8_reach 129 = .ok (.iload_n 3, 1) := by decide +kernel
theorem dX8_reach_130 : decode cX8_reach 130 = .ok (.invokevirtual 175, 3) := by decide +kernel
theorem dX8_reach_133 : decode cX8_reach 133 = .ok (.ifCond .eq 19, 3) := by decide +kernel
theorem dX8_reach_136 : decode cX8_reach 136 = .ok (.aload_n 0, 1) := by decide +kernel
theorem dX8_reach_137 : decode cX8_reach 137 = .ok (.aload_n 0, 1) := by decide +kernel
theorem dX8_reach_138 : decode cX8_reach 138 = .ok (.iload_n 3, 1) := by decide +kernel
theorem dX8_reach_139 : decode cX8_reach 139 = .ok (.invokevirtual 172, 3) := by decide +kernel
theorem dX8_reach_142 : decode cX8_reach 142 = .ok (.lneg, 1) := by decide +kernel
theorem dX8_reach_143 : decode cX8_reach 143 = .ok (.lload 4, 2) := by decide +kernel
theorem dX8_reach_145 : decode cX8_reach 145 = .ok (.lneg, 1) := by decide +kernel
theorem dX8_reach_146 : decode cX8_reach 146 = .ok (.invokevirtual 236, 3) := by decide +kernel
theorem dX8_reach_149 : decode cX8_reach 149 = .ok (.goto 19, 3) := by decide +kernel
theorem dX8_reach_152 : decode cX8_reach 152 = .ok (.aload_n 0, 1) := by decide +kernel
theorem dX8_reach_153 : decode cX8_reach 153 = .ok (.aload_n 0, 1) := by decide +kernel
theorem dX8_reach_154 : decode cX8_reach 154 = .ok (.getfield 39, 3) := by decide +kernel
theorem dX8_reach_157 : decode cX8_reach 157 = .ok (.iload_n 3, 1) := by decide +kernel
theorem dX8_reach_158 : decode cX8_reach 158 = .ok (.laload, 1) := by decide +kernel
theorem dX8_reach_159 : decode cX8_reach 159 = .ok (.aload_n 0, 1) := by decide +kernel
theorem dX8_reach_160 : decode cX8_reach 160 = .ok (.getfield 45, 3) := by decide +kernel
theorem dX8_reach_163 : decode cX8_reach 163 = .ok (.iload_n 3, 1) := by decide +kernel
theorem dX8_reach_164 : decode cX8_reach 164 = .ok (.laload, 1) := by decide +kernel
theorem dX8_reach_165 : decode cX8_reach 165 = .ok (.invokevirtual 236, 3) := by decide +kernel
theorem dX8_reach_168 : decode cX8_reach 168 = .ok (.iinc 3 1, 3) := by decide +kernel
theorem dX8_reach_171 : decode cX8_reach 171 = .ok (.goto (-114), 3) := by decide +kernel
theorem dX8_reach_174 : decode cX8_reach 174 = .ok (.aload_n 0, 1) := by decide +kernel
theorem dX8_reach_175 : decode cX8_reach 175 = .ok (.getfield 223, 3) := by decide +kernel
theorem dX8_reach_178 : decode cX8_reach 178 = .ok (.ifCond .eq 18, 3) := by decide +kernel
theorem dX8_reach_181 : decode cX8_reach 181 = .ok (.aload_n 0, 1) := by decide +kernel
theorem dX8_reach_182 : decode cX8_reach 182 = .ok (.getfield 227, 3) := by decide +kernel
theorem dX8_reach_185 : decode cX8_reach 185 = .ok (.aload_n 0, 1) := by decide +kernel
theorem dX8_reach_186 : decode cX8_reach 186 = .ok (.getfield 230, 3) := by decide +kernel
theorem dX8_reach_189 : decode cX8_reach 189 = .ok (.iload_n 1, 1) := by decide +kernel
theorem dX8_reach_190 : decode cX8_reach 190 = .ok (.invokestatic 203, 3) := by decide +kernel
theorem dX8_reach_193 : decode cX8_reach 193 = .ok (.goto 7, 3) := by decide +kernel
theorem dX8_reach_196 : decode cX8_reach 196 = .ok (.iconst (-1), 1) := by decide +kernel
theorem dX8_reach_197 : decode cX8_reach 197 = .ok (.invokestatic 200, 3) := by decide +kernel
theorem dX8_reach_200 : decode cX8_reach 200 = .ok (.lreturn, 1) := by decide +kernel
theorem dX8_isNear_0 : decode cX8_isNear 0 = .ok (.iconst 0, 1) := by decide +kernel
theorem dX8_isNear_1 : decode cX8_isNear 1 = .ok (.istore_n 2, 1) := by decide +kernel
theorem dX8_isNear_2 : decode cX8_isNear 2 = .ok (.iload_n 2, 1) := by decide +kernel
theorem dX8_isNear_3 : decode cX8_isNear 3 = .ok (.bipush 9, 2) := by decide +kernel
theorem dX8_isNear_5 : decode cX8_isNear 5 = .ok (.if_icmp .ge 38, 3) := by decide +kernel
theorem dX8_isNear_8 : decode cX8_isNear 8 = .ok (.aload_n 0, 1) := by decide +kernel
theorem dX8_isNear_9 : decode cX8_isNear 9 = .ok (.getfield 57, 3) := by decide +kernel
theorem dX8_isNear_12 : decode cX8_isNear 12 = .ok (.iload_n 2, 1) := by decide +kernel
theorem dX8_isNear_13 : decode cX8_isNear 13 = .ok (.aload_n 0, 1) := by decide +kernel
theorem dX8_isNear_14 : decode cX8_isNear 14 = .ok (.getfield 13, 3) := by decide +kernel
theorem dX8_isNear_17 : decode cX8_isNear 17 = .ok (.iload_n 2, 1) := by decide +kernel
theorem dX8_isNear_18 : decode cX8_isNear 18 = .ok (.iaload, 1) := by decide +kernel
theorem dX8_isNear_19 : decode cX8_isNear 19 = .ok (.iastore, 1) := by decide +kernel
theorem dX8_isNear_20 : decode cX8_isNear 20 = .ok (.aload_n 0, 1) := by decide +kernel
theorem dX8_isNear_21 : decode cX8_isNear 21 = .ok (.getfield 13, 3) := by decide +kernel
theorem dX8_isNear_24 : decode cX8_isNear 24 = .ok (.iload_n 2, 1) := by decide +kernel
theorem dX8_isNear_25 : decode cX8_isNear 25 = .ok (.iload_n 2, 1) := by decide +kernel
theorem dX8_isNear_26 : decode cX8_isNear 26 = .ok (.iconst 4, 1) := by decide +kernel
theorem dX8_isNear_27 : decode cX8_isNear 27 = .ok (.irem, 1) := by decide +kernel
theorem dX8_isNear_28 : decode cX8_isNear 28 = .ok (.ifCond .ne 7, 3) := by decide +kernel
theorem dX8_isNear_31 : decode cX8_isNear 31 = .ok (.iconst 1, 1) := by decide +kernel
theorem dX8_isNear_32 : decode cX8_isNear 32 = .ok (.goto 4, 3) := by decide +kernel
theorem dX8_isNear_35 : decode cX8_isNear 35 = .ok (.iconst 0, 1) := by decide +kernel
theorem dX8_isNear_36 : decode cX8_isNear 36 = .ok (.iastore, 1) := by decide +kernel
theorem dX8_isNear_37 : decode cX8_isNear 37 = .ok (.iinc 2 1, 3) := by decide +kernel
theorem dX8_isNear_40 : decode cX8_isNear 40 = .ok (.goto (-38), 3) := by decide +kernel
theorem dX8_isNear_43 : decode cX8_isNear 43 = .ok (.iconst 0, 1) := by decide +kernel
theorem dX8_isNear_44 : decode cX8_isNear 44 = .ok (.istore_n 2, 1) := by decide +kernel
theorem dX8_isNear_45 : decode cX8_isNear 45 = .ok (.iload_n 2, 1) := by decide +kernel
theorem dX8_isNear_46 : decode cX8_isNear 46 = .ok (.iconst 3, 1) := by decide +kernel
theorem dX8_isNear_47 : decode cX8_isNear 47 = .ok (.if_icmp .ge 34, 3) := by decide +kernel
theorem dX8_isNear_50 : decode cX8_isNear 50 = .ok (.aload_n 0, 1) := by decide +kernel
theorem dX8_isNear_51 : decode cX8_isNear 51 = .ok (.getfield 57, 3) := by decide +kernel
theorem dX8_isNear_54 : decode cX8_isNear 54 = .ok (.bipush 9, 2) := by decide +kernel
theorem dX8_isNear_56 : decode cX8_isNear 56 = .ok (.iload_n 2, 1) := by decide +kernel
theorem dX8_isNear_57 : decode cX8_isNear 57 = .ok (.iadd, 1) := by decide +kernel
theorem dX8_isNear_58 : decode cX8_isNear 58 = .ok (.aload_n 0, 1) := by decide +kernel
theorem dX8_isNear_59 : decode cX8_isNear 59 = .ok (.getfield 17, 3) := by decide +kernel
theorem dX8_isNear_62 : decode cX8_isNear 62 = .ok (.iload_n 2, 1) := by decide +kernel
theorem dX8_isNear_63 : decode cX8_isNear 63 = .ok (.iaload, 1) := by decide +kernel
theorem dX8_isNear_64 : decode cX8_isNear 64 = .ok (.iastore, 1) := by decide +kernel
theorem dX8_isNear_65 : decode cX8_isNear 65 = .ok (.aload_n 0, 1) := by decide +kernel
theorem dX8_isNear_66 : decode cX8_isNear 66 = .ok (.getfield 17, 3) := by decide +kernel
theorem dX8_isNear_69 : decode cX8_isNear 69 = .ok (.iload_n 2, 1) := by decide +kernel
theorem dX8_isNear_70 : decode cX8_isNear 70 = .ok (.aload_n 1, 1) := by decide +kernel
theorem dX8_isNear_71 : decode cX8_isNear 71 = .ok (.iload_n 2, 1) := by decide +kernel
theorem dX8_isNear_72 : decode cX8_isNear 72 = .ok (.iaload, 1) := by decide +kernel
theorem dX8_isNear_73 : decode cX8_isNear 73 = .ok (.ineg, 1) := by decide +kernel
theorem dX8_isNear_74 : decode cX8_isNear 74 = .ok (.iastore, 1) := by decide +kernel
theorem dX8_isNear_75 : decode cX8_isNear 75 = .ok (.iinc 2 1, 3) := by decide +kernel
theorem dX8_isNear_78 : decode cX8_isNear 78 = .ok (.goto (-33), 3) := by decide +kernel
theorem dX8_isNear_81 : decode cX8_isNear 81 = .ok (.aload_n 0, 1) := by decide +kernel
theorem dX8_isNear_82 : decode cX8_isNear 82 = .ok (.aload_n 0, 1) := by decide +kernel
theorem dX8_isNear_83 : decode cX8_isNear 83 = .ok (.invokevirtual 220, 3) := by decide +kernel
theorem dX8_isNear_86 : decode cX8_isNear 86 = .ok (.invokevirtual 190, 3) := by decide +kernel
theorem dX8_isNear_89 : decode cX8_isNear 89 = .ok (.iconst (-1), 1) := by decide +kernel
theorem dX8_isNear_90 : decode cX8_isNear 90 = .ok (.if_icmp .eq 7, 3) := by decide +kernel
theorem dX8_isNear_93 : decode cX8_isNear 93 = .ok (.iconst 1, 1) := by decide +kernel
theorem dX8_isNear_94 : decode cX8_isNear 94 = .ok (.goto 4, 3) := by decide +kernel
theorem dX8_isNear_97 : decode cX8_isNear 97 = .ok (.iconst 0, 1) := by decide +kernel
theorem dX8_isNear_98 : decode cX8_isNear 98 = .ok (.istore_n 2, 1) := by decide +kernel
theorem dX8_isNear_99 : decode cX8_isNear 99 = .ok (.aload_n 0, 1) := by decide +kernel
theorem dX8_isNear_100 : decode cX8_isNear 100 = .ok (.iload_n 2, 1) := by decide +kernel
theorem dX8_isNear_101 : decode cX8_isNear 101 = .ok (.ifCond .eq 10, 3) := by decide +kernel
theorem dX8_isNear_104 : decode cX8_isNear 104 = .ok (.aload_n 0, 1) := by decide +kernel
theorem dX8_isNear_105 : decode cX8_isNear 105 = .ok (.invokevirtual 207, 3) := by decide +kernel
theorem dX8_isNear_108 : decode cX8_isNear 108 = .ok (.goto 4, 3) := by decide +kernel
theorem dX8_isNear_111 : decode cX8_isNear 111 = .ok (.lconst 0, 1) := by decide +kernel
theorem dX8_isNear_112 : decode cX8_isNear 112 = .ok (.putfield 240, 3) := by decide +kernel
theorem dX8_isNear_115 : decode cX8_isNear 115 = .ok (.iconst 0, 1) := by decide +kernel
theorem dX8_isNear_116 : decode cX8_isNear 116 = .ok (.istore_n 3, 1) := by decide +kernel
theorem dX8_isNear_117 : decode cX8_isNear 117 = .ok (.iload_n 3, 1) := by decide +kernel
theorem dX8_isNear_118 : decode cX8_isNear 118 = .ok (.bipush 9, 2) := by decide +kernel
theorem dX8_isNear_120 : decode cX8_isNear 120 = .ok (.if_icmp .ge 21, 3) := by decide +kernel
theorem dX8_isNear_123 : decode cX8_isNear 123 = .ok (.aload_n 0, 1) := by decide +kernel
theorem dX8_isNear_124 : decode cX8_isNear 124 = .ok (.getfield 13, 3) := by decide +kernel
theorem dX8_isNear_127 : decode cX8_isNear 127 = .ok (.iload_n 3, 1) := by decide +kernel
theorem dX8_isNear_128 : decode cX8_isNear 128 = .ok (.aload_n 0, 1) := by decide +kernel
theorem dX8_isNear_129 : decode cX8_isNear 129 = .ok (.getfield 57, 3) := by decide +kernel
theorem dX8_isNear_132 : decode cX8_isNear 132 = .ok (.iload_n 3, 1) := by decide +kernel
theorem dX8_isNear_133 : decode cX8_isNear 133 = .ok (.iaload, 1) := by decide +kernel
theorem dX8_isNear_134 : decode cX8_isNear 134 = .ok (.iastore, 1) := by decide +kernel
theorem dX8_isNear_135 : decode cX8_isNear 135 = .ok (.iinc 3 1, 3) := by decide +kernel
theorem dX8_isNear_138 : decode cX8_isNear 138 = .ok (.goto (-21), 3) := by decide +kernel
theorem dX8_isNear_141 : decode cX8_isNear 141 = .ok (.iconst 0, 1) := by decide +kernel
theorem dX8_isNear_142 : decode cX8_isNear 142 = .ok (.istore_n 3, 1) := by decide +kernel
theorem dX8_isNear_143 : decode cX8_isNear 143 = .ok (.iload_n 3, 1) := by decide +kernel
theorem dX8_isNear_144 : decode cX8_isNear 144 = .ok (.iconst 3, 1) := by decide +kernel
theorem dX8_isNear_145 : decode cX8_isNear 145 = .ok (.if_icmp .ge 24, 3) := by decide +kernel
theorem dX8_isNear_148 : decode cX8_isNear 148 = .ok (.aload_n 0, 1) := by decide +kernel
theorem dX8_isNear_149 : decode cX8_isNear 149 = .ok (.getfield 17, 3) := by decide +kernel
theorem dX8_isNear_152 : decode cX8_isNear 152 = .ok (.iload_n 3, 1) := by decide +kernel
theorem dX8_isNear_153 : decode cX8_isNear 153 = .ok (.aload_n 0, 1) := by decide +kernel
theorem dX8_isNear_154 : decode cX8_isNear 154 = .ok (.getfield 57, 3) := by decide +kernel
theorem dX8_isNear_157 : decode cX8_isNear 157 = .ok (.bipush 9, 2) := by decide +kernel
theorem dX8_isNear_159 : decode cX8_isNear 159 = .ok (.iload_n 3, 1) := by decide +kernel
theorem dX8_isNear_160 : decode cX8_isNear 160 = .ok (.iadd, 1) := by decide +kernel
theorem dX8_isNear_161 : decode cX8_isNear 161 = .ok (.iaload, 1) := by decide +kernel
theorem dX8_isNear_162 : decode cX8_isNear 162 = .ok (.iastore, 1) := by decide +kernel
theorem dX8_isNear_163 : decode cX8_isNear 163 = .ok (.iinc 3 1, 3) := by decide +kernel
theorem dX8_isNear_166 : decode cX8_isNear 166 = .ok (.goto (-23), 3) := by decide +kernel
theorem dX8_isNear_169 : decode cX8_isNear 169 = .ok (.iload_n 2, 1) := by decide +kernel
theorem dX8_isNear_170 : decode cX8_isNear 170 = .ok (.ireturn, 1) := by decide +kernel
theorem dX8_isPlace_0 : decode cX8_isPlace 0 = .ok (.iload_n 0, 1) := by decide +kernel
theorem dX8_isPlace_1 : decode cX8_isPlace 1 = .ok (.i2l, 1) := by decide +kernel
theorem dX8_isPlace_2 : decode cX8_isPlace 2 = .ok (.ldc2_w 106, 3) := by decide +kernel
theorem dX8_isPlace_5 : decode cX8_isPlace 5 = .ok (.ldc2_w 108, 3) := by decide +kernel
theorem dX8_isPlace_8 : decode cX8_isPlace 8 = .ok (.invokestatic 84, 3) := by decide +kernel
theorem dX8_isPlace_11 : decode cX8_isPlace 11 = .ok (.ifCond .eq 35, 3) := by decide +kernel
theorem dX8_isPlace_14 : decode cX8_isPlace 14 = .ok (.iload_n 1, 1) := by decide +kernel
theorem dX8_isPlace_15 : decode cX8_isPlace 15 = .ok (.i2l, 1) := by decide +kernel
theorem dX8_isPlace_16 : decode cX8_isPlace 16 = .ok (.ldc2_w 106, 3) := by decide +kernel
theorem dX8_isPlace_19 : decode cX8_isPlace 19 = .ok (.ldc2_w 108, 3) := by decide +kernel
theorem dX8_isPlace_22 : decode cX8_isPlace 22 = .ok (.invokestatic 84, 3) := by decide +kernel
theorem dX8_isPlace_25 : decode cX8_isPlace 25 = .ok (.ifCond .eq 21, 3) := by decide +kernel
theorem dX8_isPlace_28 : decode cX8_isPlace 28 = .ok (.iload_n 2, 1) := by decide +kernel
theorem dX8_isPlace_29 : decode cX8_isPlace 29 = .ok (.i2l, 1) := by decide +kernel
theorem dX8_isPlace_30 : decode cX8_isPlace 30 = .ok (.ldc2_w 106, 3) := by decide +kernel
theorem dX8_isPlace_33 : decode cX8_isPlace 33 = .ok (.ldc2_w 108, 3) := by decide +kernel
theorem dX8_isPlace_36 : decode cX8_isPlace 36 = .ok (.invokestatic 84, 3) := by decide +kernel
theorem dX8_isPlace_39 : decode cX8_isPlace 39 = .ok (.ifCond .eq 7, 3) := by decide +kernel
theorem dX8_isPlace_42 : decode cX8_isPlace 42 = .ok (.iconst 1, 1) := by decide +kernel
theorem dX8_isPlace_43 : decode cX8_isPlace 43 = .ok (.goto 4, 3) := by decide +kernel
theorem dX8_isPlace_46 : decode cX8_isPlace 46 = .ok (.iconst 0, 1) := by decide +kernel
theorem dX8_isPlace_47 : decode cX8_isPlace 47 = .ok (.ireturn, 1) := by decide +kernel
theorem dX8_nearest_0 : decode cX8_nearest 0 = .ok (.iload_n 1, 1) := by decide +kernel
theorem dX8_nearest_1 : decode cX8_nearest 1 = .ok (.iload_n 2, 1) := by decide +kernel
theorem dX8_nearest_2 : decode cX8_nearest 2 = .ok (.iload_n 3, 1) := by decide +kernel
theorem dX8_nearest_3 : decode cX8_nearest 3 = .ok (.invokestatic 243, 3) := by decide +kernel
theorem dX8_nearest_6 : decode cX8_nearest 6 = .ok (.ifCond .eq 20, 3) := by decide +kernel
theorem dX8_nearest_9 : decode cX8_nearest 9 = .ok (.aload_n 0, 1) := by decide +kernel
theorem dX8_nearest_10 : decode cX8_nearest 10 = .ok (.iload 4, 2) := by decide +kernel
theorem dX8_nearest_12 : decode cX8_nearest 12 = .ok (.invokevirtual 96, 3) := by decide +kernel
theorem dX8_nearest_15 : decode cX8_nearest 15 = .ok (.ifCond .eq 11, 3) := by decide +kernel
theorem dX8_nearest_18 : decode cX8_nearest 18 = .ok (.iload 5, 2) := by decide +kernel
theorem dX8_nearest_20 : decode cX8_nearest 20 = .ok (.invokestatic 193, 3) := by decide +kernel
theorem dX8_nearest_23 : decode cX8_nearest 23 = .ok (.ifCond .ne 9, 3) := by decide +kernel
theorem dX8_nearest_26 : decode cX8_nearest 26 = .ok (.bipush (-2), 2) := by decide +kernel
theorem dX8_nearest_28 : decode cX8_nearest 28 = .ok (.invokestatic 200, 3) := by decide +kernel
theorem dX8_nearest_31 : decode cX8_nearest 31 = .ok (.lreturn, 1) := by decide +kernel
theorem dX8_nearest_32 : decode cX8_nearest 32 = .ok (.iconst 3, 1) := by decide +kernel
theorem dX8_nearest_33 : decode cX8_nearest 33 = .ok (.newarray .int, 2) := by decide +kernel
theorem dX8_nearest_35 : decode cX8_nearest 35 = .ok (.dup, 1) := by decide +kernel
theorem dX8_nearest_36 : decode cX8_nearest 36 = .ok (.iconst 0, 1) := by decide +kernel
theorem dX8_nearest_37 : decode cX8_nearest 37 = .ok (.iload_n 1, 1) := by decide +kernel
theorem dX8_nearest_38 : decode cX8_nearest 38 = .ok (.iastore, 1) := by decide +kernel
theorem dX8_nearest_39 : decode cX8_nearest 39 = .ok (.dup, 1) := by decide +kernel
theorem dX8_nearest_40 : decode cX8_nearest 40 = .ok (.iconst 1, 1) := by decide +kernel
theorem dX8_nearest_41 : decode cX8_nearest 41 = .ok (.iload_n 2, 1) := by decide +kernel
theorem dX8_nearest_42 : decode cX8_nearest 42 = .ok (.iastore, 1) := by decide +kernel
theorem dX8_nearest_43 : decode cX8_nearest 43 = .ok (.dup, 1) := by decide +kernel
theorem dX8_nearest_44 : decode cX8_nearest 44 = .ok (.iconst 2, 1) := by decide +kernel
theorem dX8_nearest_45 : decode cX8_nearest 45 = .ok (.iload_n 3, 1) := by decide +kernel
theorem dX8_nearest_46 : decode cX8_nearest 46 = .ok (.iastore, 1) := by decide +kernel
theorem dX8_nearest_47 : decode cX8_nearest 47 = .ok (.astore 6, 2) := by decide +kernel
theorem dX8_nearest_49 : decode cX8_nearest 49 = .ok (.aload_n 0, 1) := by decide +kernel
theorem dX8_nearest_50 : decode cX8_nearest 50 = .ok (.aload 6, 2) := by decide +kernel
theorem dX8_nearest_52 : decode cX8_nearest 52 = .ok (.invokevirtual 247, 3) := by decide +kernel
theorem dX8_nearest_55 : decode cX8_nearest 55 = .ok (.ifCond .eq 22, 3) := by decide +kernel
theorem dX8_nearest_58 : decode cX8_nearest 58 = .ok (.aload_n 0, 1) := by decide +kernel
theorem dX8_nearest_59 : decode cX8_nearest 59 = .ok (.getfield 36, 3) := by decide +kernel
theorem dX8_nearest_62 : decode cX8_nearest 62 = .ok (.iload 4, 2) := by decide +kernel
theorem dX8_nearest_64 : decode cX8_nearest 64 = .ok (.laload, 1) := by decide +kernel
theorem dX8_nearest_65 : decode cX8_nearest 65 = .ok (.aload_n 0, 1) := by decide +kernel
theorem dX8_nearest_66 : decode cX8_nearest 66 = .ok (.getfield 161, 3) := by decide +kernel
theorem dX8_nearest_69 : decode cX8_nearest 69 = .ok (.iload 5, 2) := by decide +kernel
theorem dX8_nearest_71 : decode cX8_nearest 71 = .ok (.invokestatic 203, 3) := by decide +kernel
theorem dX8_nearest_74 : decode cX8_nearest 74 = .ok (.goto 7, 3) := by decide +kernel
theorem dX8_nearest_77 : decode cX8_nearest 77 = .ok (.iconst (-1), 1) := by decide +kernel
theorem dX8_nearest_78 : decode cX8_nearest 78 = .ok (.invokestatic 200, 3) := by decide +kernel
theorem dX8_nearest_81 : decode cX8_nearest 81 = .ok (.lreturn, 1) := by decide +kernel
theorem dX8_distance_0 : decode cX8_distance 0 = .ok (.iload_n 1, 1) := by decide +kernel
theorem dX8_distance_1 : decode cX8_distance 1 = .ok (.iload_n 2, 1) := by decide +kernel
theorem dX8_distance_2 : decode cX8_distance 2 = .ok (.iload_n 3, 1) := by decide +kernel
theorem dX8_distance_3 : decode cX8_distance 3 = .ok (.invokestatic 243, 3) := by decide +kernel
theorem dX8_distance_6 : decode cX8_distance 6 = .ok (.ifCond .eq 11, 3) := by decide +kernel
theorem dX8_distance_9 : decode cX8_distance 9 = .ok (.iload 4, 2) := by decide +kernel
theorem dX8_distance_11 : decode cX8_distance 11 = .ok (.invokestatic 193, 3) := by decide +kernel
theorem dX8_distance_14 : decode cX8_distance 14 = .ok (.ifCond .ne 9, 3) := by decide +kernel
theorem dX8_distance_17 : decode cX8_distance 17 = .ok (.bipush (-2), 2) := by decide +kernel
theorem dX8_distance_19 : decode cX8_distance 19 = .ok (.invokestatic 200, 3) := by decide +kernel
theorem dX8_distance_22 : decode cX8_distance 22 = .ok (.lreturn, 1) := by decide +kernel
theorem dX8_distance_23 : decode cX8_distance 23 = .ok (.iconst 3, 1) := by decide +kernel
theorem dX8_distance_24 : decode cX8_distance 24 = .ok (.newarray .int, 2) := by decide +kernel
theorem dX8_distance_26 : decode cX8_distance 26 = .ok (.dup, 1) := by decide +kernel
theorem dX8_distance_27 : decode cX8_distance 27 = .ok (.iconst 0, 1) := by decide +kernel
theorem dX8_distance_28 : decode cX8_distance 28 = .ok (.iload_n 1, 1) := by decide +kernel
theorem dX8_distance_29 : decode cX8_distance 29 = .ok (.iastore, 1) := by decide +kernel
theorem dX8_distance_30 : decode cX8_distance 30 = .ok (.dup, 1) := by decide +kernel
theorem dX8_distance_31 : decode cX8_distance 31 = .ok (.iconst 1, 1) := by decide +kernel
theorem dX8_distance_32 : decode cX8_distance 32 = .ok (.iload_n 2, 1) := by decide +kernel
theorem dX8_distance_33 : decode cX8_distance 33 = .ok (.iastore, 1) := by decide +kernel
theorem dX8_distance_34 : decode cX8_distance 34 = .ok (.dup, 1) := by decide +kernel
theorem dX8_distance_35 : decode cX8_distance 35 = .ok (.iconst 2, 1) := by decide +kernel
theorem dX8_distance_36 : decode cX8_distance 36 = .ok (.iload_n 3, 1) := by decide +kernel
theorem dX8_distance_37 : decode cX8_distance 37 = .ok (.iastore, 1) := by decide +kernel
theorem dX8_distance_38 : decode cX8_distance 38 = .ok (.astore 5, 2) := by decide +kernel
theorem dX8_distance_40 : decode cX8_distance 40 = .ok (.aload_n 0, 1) := by decide +kernel
theorem dX8_distance_41 : decode cX8_distance 41 = .ok (.aload 5, 2) := by decide +kernel
theorem dX8_distance_43 : decode cX8_distance 43 = .ok (.invokevirtual 247, 3) := by decide +kernel
theorem dX8_distance_46 : decode cX8_distance 46 = .ok (.ifCond .ne 8, 3) := by decide +kernel
theorem dX8_distance_49 : decode cX8_distance 49 = .ok (.iconst (-1), 1) := by decide +kernel
theorem dX8_distance_50 : decode cX8_distance 50 = .ok (.invokestatic 200, 3) := by decide +kernel
theorem dX8_distance_53 : decode cX8_distance 53 = .ok (.lreturn, 1) := by decide +kernel
theorem dX8_distance_54 : decode cX8_distance 54 = .ok (.lconst 0, 1) := by decide +kernel
theorem dX8_distance_55 : decode cX8_distance 55 = .ok (.lstore 6, 2) := by decide +kernel
theorem dX8_distance_57 : decode cX8_distance 57 = .ok (.iconst 0, 1) := by decide +kernel
theorem dX8_distance_58 : decode cX8_distance 58 = .ok (.istore 8, 2) := by decide +kernel
theorem dX8_distance_60 : decode cX8_distance 60 = .ok (.iload 8, 2) := by decide +kernel
theorem dX8_distance_62 : decode cX8_distance 62 = .ok (.aload_n 0, 1) := by decide +kernel
theorem dX8_distance_63 : decode cX8_distance 63 = .ok (.getfield 7, 3) := by decide +kernel
theorem dX8_distance_66 : decode cX8_distance 66 = .ok (.if_icmp .ge 26, 3) := by decide +kernel
theorem dX8_distance_69 : decode cX8_distance 69 = .ok (.lload 6, 2) := by decide +kernel
theorem dX8_distance_71 : decode cX8_distance 71 = .ok (.aload 5, 2) := by decide +kernel
theorem dX8_distance_73 : decode cX8_distance 73 = .ok (.iload 8, 2) := by decide +kernel
theorem dX8_distance_75 : decode cX8_distance 75 = .ok (.iaload, 1) := by decide +kernel
theorem dX8_distance_76 : decode cX8_distance 76 = .ok (.aload 5, 2) := by decide +kernel
theorem dX8_distance_78 : decode cX8_distance 78 = .ok (.iload 8, 2) := by decide +kernel
theorem dX8_distance_80 : decode cX8_distance 80 = .ok (.iaload, 1) := by decide +kernel
theorem dX8_distance_81 : decode cX8_distance 81 = .ok (.imul, 1) := by decide +kernel
theorem dX8_distance_82 : decode cX8_distance 82 = .ok (.i2l, 1) := by decide +kernel
theorem dX8_distance_83 : decode cX8_distance 83 = .ok (.ladd, 1) := by decide +kernel
theorem dX8_distance_84 : decode cX8_distance 84 = .ok (.lstore 6, 2) := by decide +kernel
theorem dX8_distance_86 : decode cX8_distance 86 = .ok (.iinc 8 1, 3) := by decide +kernel
theorem dX8_distance_89 : decode cX8_distance 89 = .ok (.goto (-29), 3) := by decide +kernel
theorem dX8_distance_92 : decode cX8_distance 92 = .ok (.aload_n 0, 1) := by decide +kernel
theorem dX8_distance_93 : decode cX8_distance 93 = .ok (.getfield 240, 3) := by decide +kernel
theorem dX8_distance_96 : decode cX8_distance 96 = .ok (.lload 6, 2) := by decide +kernel
theorem dX8_distance_98 : decode cX8_distance 98 = .ok (.aload_n 0, 1) := by decide +kernel
theorem dX8_distance_99 : decode cX8_distance 99 = .ok (.getfield 161, 3) := by decide +kernel
theorem dX8_distance_102 : decode cX8_distance 102 = .ok (.lmul, 1) := by decide +kernel
theorem dX8_distance_103 : decode cX8_distance 103 = .ok (.ladd, 1) := by decide +kernel
theorem dX8_distance_104 : decode cX8_distance 104 = .ok (.aload_n 0, 1) := by decide +kernel
theorem dX8_distance_105 : decode cX8_distance 105 = .ok (.getfield 161, 3) := by decide +kernel
theorem dX8_distance_108 : decode cX8_distance 108 = .ok (.iload 4, 2) := by decide +kernel
theorem dX8_distance_110 : decode cX8_distance 110 = .ok (.invokestatic 203, 3) := by decide +kernel
theorem dX8_distance_113 : decode cX8_distance 113 = .ok (.lreturn, 1) := by decide +kernel
theorem dX8_certify_0 : decode cX8_certify 0 = .ok (.iload_n 1, 1) := by decide +kernel
theorem dX8_certify_1 : decode cX8_certify 1 = .ok (.invokestatic 251, 3) := by decide +kernel
theorem dX8_certify_4 : decode cX8_certify 4 = .ok (.ifCond .ne 6, 3) := by decide +kernel
theorem dX8_certify_7 : decode cX8_certify 7 = .ok (.bipush (-2), 2) := by decide +kernel
theorem dX8_certify_9 : decode cX8_certify 9 = .ok (.ireturn, 1) := by decide +kernel
theorem dX8_certify_10 : decode cX8_certify 10 = .ok (.aload_n 0, 1) := by decide +kernel
theorem dX8_certify_11 : decode cX8_certify 11 = .ok (.aload_n 0, 1) := by decide +kernel
theorem dX8_certify_12 : decode cX8_certify 12 = .ok (.invokevirtual 220, 3) := by decide +kernel
theorem dX8_certify_15 : decode cX8_certify 15 = .ok (.iconst 1, 1) := by decide +kernel
theorem dX8_certify_16 : decode cX8_certify 16 = .ok (.invokevirtual 196, 3) := by decide +kernel
theorem dX8_certify_19 : decode cX8_certify 19 = .ok (.istore_n 2, 1) := by decide +kernel
theorem dX8_certify_20 : decode cX8_certify 20 = .ok (.iload_n 2, 1) := by decide +kernel
theorem dX8_certify_21 : decode cX8_certify 21 = .ok (.ifCond .eq 5, 3) := by decide +kernel
theorem dX8_certify_24 : decode cX8_certify 24 = .ok (.iload_n 2, 1) := by decide +kernel
theorem dX8_certify_25 : decode cX8_certify 25 = .ok (.ireturn, 1) := by decide +kernel
theorem dX8_certify_26 : decode cX8_certify 26 = .ok (.aload_n 0, 1) := by decide +kernel
theorem dX8_certify_27 : decode cX8_certify 27 = .ok (.getfield 161, 3) := by decide +kernel
theorem dX8_certify_30 : decode cX8_certify 30 = .ok (.lstore_n 3, 1) := by decide +kernel
theorem dX8_certify_31 : decode cX8_certify 31 = .ok (.iconst 0, 1) := by decide +kernel
theorem dX8_certify_32 : decode cX8_certify 32 = .ok (.istore 5, 2) := by decide +kernel
theorem dX8_certify_34 : decode cX8_certify 34 = .ok (.iload 5, 2) := by decide +kernel
theorem dX8_certify_36 : decode cX8_certify 36 = .ok (.aload_n 0, 1) := by decide +kernel
theorem dX8_certify_37 : decode cX8_certify 37 = .ok (.getfield 7, 3) := by decide +kernel
theorem dX8_certify_40 : decode cX8_certify 40 = .ok (.if_icmp .ge 21, 3) := by decide +kernel
theorem dX8_certify_43 : decode cX8_certify 43 = .ok (.aload_n 0, 1) := by decide +kernel
theorem dX8_certify_44 : decode cX8_certify 44 = .ok (.getfield 36, 3) := by decide +kernel
theorem dX8_certify_47 : decode cX8_certify 47 = .ok (.iload 5, 2) := by decide +kernel
theorem dX8_certify_49 : decode cX8_certify 49 = .ok (.laload, 1) := by decide +kernel
theorem dX8_certify_50 : decode cX8_certify 50 = .ok (.lload_n 3, 1) := by decide +kernel
theorem dX8_certify_51 : decode cX8_certify 51 = .ok (.invokestatic 71, 3) := by decide +kernel
theorem dX8_certify_54 : decode cX8_certify 54 = .ok (.lstore_n 3, 1) := by decide +kernel
theorem dX8_certify_55 : decode cX8_certify 55 = .ok (.iinc 5 1, 3) := by decide +kernel
theorem dX8_certify_58 : decode cX8_certify 58 = .ok (.goto (-24), 3) := by decide +kernel
theorem dX8_certify_61 : decode cX8_certify 61 = .ok (.iconst 0, 1) := by decide +kernel
theorem dX8_certify_62 : decode cX8_certify 62 = .ok (.istore 5, 2) := by decide +kernel
theorem dX8_certify_64 : decode cX8_certify 64 = .ok (.iload 5, 2) := by decide +kernel
theorem dX8_certify_66 : decode cX8_certify 66 = .ok (.aload_n 0, 1) := by decide +kernel
theorem dX8_certify_67 : decode cX8_certify 67 = .ok (.getfield 88, 3) := by decide +kernel
theorem dX8_certify_70 : decode cX8_certify 70 = .ok (.if_icmp .ge 21, 3) := by decide +kernel
theorem dX8_certify_73 : decode cX8_certify 73 = .ok (.aload_n 0, 1) := by decide +kernel
theorem dX8_certify_74 : decode cX8_certify 74 = .ok (.getfield 39, 3) := by decide +kernel
theorem dX8_certify_77 : decode cX8_certify 77 = .ok (.iload 5, 2) := by decide +kernel
theorem dX8_certify_79 : decode cX8_certify 79 = .ok (.laload, 1) := by decide +kernel
theorem dX8_certify_80 : decode cX8_certify 80 = .ok (.lload_n 3, 1) := by decide +kernel
theorem dX8_certify_81 : decode cX8_certify 81 = .ok (.invokestatic 71, 3) := by decide +kernel
theorem dX8_certify_84 : decode cX8_certify 84 = .ok (.lstore_n 3, 1) := by decide +kernel
theorem dX8_certify_85 : decode cX8_certify 85 = .ok (.iinc 5 1, 3) := by decide +kernel
theorem dX8_certify_88 : decode cX8_certify 88 = .ok (.goto (-24), 3) := by decide +kernel
theorem dX8_certify_91 : decode cX8_certify 91 = .ok (.aload_n 0, 1) := by decide +kernel
theorem dX8_certify_92 : decode cX8_certify 92 = .ok (.iload_n 1, 1) := by decide +kernel
theorem dX8_certify_93 : decode cX8_certify 93 = .ok (.iconst 1, 1) := by decide +kernel
theorem dX8_certify_94 : decode cX8_certify 94 = .ok (.aload_n 0, 1) := by decide +kernel
theorem dX8_certify_95 : decode cX8_certify 95 = .ok (.getfield 7, 3) := by decide +kernel
theorem dX8_certify_98 : decode cX8_certify 98 = .ok (.aload_n 0, 1) := by decide +kernel
theorem dX8_certify_99 : decode cX8_certify 99 = .ok (.getfield 88, 3) := by decide +kernel
theorem dX8_certify_102 : decode cX8_certify 102 = .ok (.iadd, 1) := by decide +kernel
theorem dX8_certify_103 : decode cX8_certify 103 = .ok (.iconst 1, 1) := by decide +kernel
theorem dX8_certify_104 : decode cX8_certify 104 = .ok (.iadd, 1) := by decide +kernel
theorem dX8_certify_105 : decode cX8_certify 105 = .ok (.invokevirtual 254, 3) := by decide +kernel
theorem dX8_certify_108 : decode cX8_certify 108 = .ok (.iconst 0, 1) := by decide +kernel
theorem dX8_certify_109 : decode cX8_certify 109 = .ok (.istore 5, 2) := by decide +kernel
theorem dX8_certify_111 : decode cX8_certify 111 = .ok (.iload 5, 2) := by decide +kernel
theorem dX8_certify_113 : decode cX8_certify 113 = .ok (.aload_n 0, 1) := by decide +kernel
theorem dX8_certify_114 : decode cX8_certify 114 = .ok (.getfield 7, 3) := by decide +kernel
theorem dX8_certify_117 : decode cX8_certify 117 = .ok (.if_icmp .ge 30, 3) := by decide +kernel
theorem dX8_certify_120 : decode cX8_certify 120 = .ok (.aload_n 0, 1) := by decide +kernel
theorem dX8_certify_121 : decode cX8_certify 121 = .ok (.getfield 66, 3) := by decide +kernel
theorem dX8_certify_124 : decode cX8_certify 124 = .ok (.bipush 12, 2) := by decide +kernel
theorem dX8_certify_126 : decode cX8_certify 126 = .ok (.iload_n 1, 1) := by decide +kernel
theorem dX8_certify_127 : decode cX8_certify 127 = .ok (.imul, 1) := by decide +kernel
theorem dX8_certify_128 : decode cX8_certify 128 = .ok (.iload 5, 2) := by decide +kernel
theorem dX8_certify_130 : decode cX8_certify 130 = .ok (.iadd, 1) := by decide +kernel
theorem dX8_certify_131 : decode cX8_certify 131 = .ok (.aload_n 0, 1) := by decide +kernel
theorem dX8_certify_132 : decode cX8_certify 132 = .ok (.getfield 36, 3) := by decide +kernel
theorem dX8_certify_135 : decode cX8_certify 135 = .ok (.iload 5, 2) := by decide +kernel
theorem dX8_certify_137 : decode cX8_certify 137 = .ok (.laload, 1) := by decide +kernel
theorem dX8_certify_138 : decode cX8_certify 138 = .ok (.lload_n 3, 1) := by decide +kernel
theorem dX8_certify_139 : decode cX8_certify 139 = .ok (.ldiv, 1) := by decide +kernel
theorem dX8_certify_140 : decode cX8_certify 140 = .ok (.lastore, 1) := by decide +kernel
theorem dX8_certify_141 : decode cX8_certify 141 = .ok (.iinc 5 1, 3) := by decide +kernel
theorem dX8_certify_144 : decode cX8_certify 144 = .ok (.goto (-33), 3) := by decide +kernel
theorem dX8_certify_147 : decode cX8_certify 147 = .ok (.iconst 0, 1) := by decide +kernel
theorem dX8_certify_148 : decode cX8_certify 148 = .ok (.istore 5, 2) := by decide +kernel
theorem dX8_certify_150 : decode cX8_certify 150 = .ok (.iload 5, 2) := by decide +kernel
theorem dX8_certify_152 : decode cX8_certify 152 = .ok (.aload_n 0, 1) := by decide +kernel
theorem dX8_certify_153 : decode cX8_certify 153 = .ok (.getfield 88, 3) := by decide +kernel
theorem dX8_certify_156 : decode cX8_certify 156 = .ok (.if_icmp .ge 35, 3) := by decide +kernel
theorem dX8_certify_159 : decode cX8_certify 159 = .ok (.aload_n 0, 1) := by decide +kernel
theorem dX8_certify_160 : decode cX8_certify 160 = .ok (.getfield 66, 3) := by decide +kernel
theorem dX8_certify_163 : decode cX8_certify 163 = .ok (.bipush 12, 2) := by decide +kernel
theorem dX8_certify_165 : decode cX8_certify 165 = .ok (.iload_n 1, 1) := by decide +kernel
theorem dX8_certify_166 : decode cX8_certify 166 = .ok (.imul, 1) := by decide +kernel
theorem dX8_certify_167 : decode cX8_certify 167 = .ok (.aload_n 0, 1) := by decide +kernel
theorem dX8_certify_168 : decode cX8_certify 168 = .ok (.getfield 7, 3) := by decide +kernel
theorem dX8_certify_171 : decode cX8_certify 171 = .ok (.iadd, 1) := by decide +kernel
theorem dX8_certify_172 : decode cX8_certify 172 = .ok (.iload 5, 2) := by decide +kernel
theorem dX8_certify_174 : decode cX8_certify 174 = .ok (.iadd, 1) := by decide +kernel
theorem dX8_certify_175 : decode cX8_certify 175 = .ok (.aload_n 0, 1) := by decide +kernel
theorem dX8_certify_176 : decode cX8_certify 176 = .ok (.getfield 39, 3) := by decide +kernel
theorem dX8_certify_179 : decode cX8_certify 179 = .ok (.iload 5, 2) := by decide +kernel
theorem dX8_certify_181 : decode cX8_certify 181 = .ok (.laload, 1) := by decide +kernel
theorem dX8_certify_182 : decode cX8_certify 182 = .ok (.lload_n 3, 1) := by decide +kernel
theorem dX8_certify_183 : decode cX8_certify 183 = .ok (.ldiv, 1) := by decide +kernel
theorem dX8_certify_184 : decode cX8_certify 184 = .ok (.lastore, 1) := by decide +kernel
theorem dX8_certify_185 : decode cX8_certify 185 = .ok (.iinc 5 1, 3) := by decide +kernel
theorem dX8_certify_188 : decode cX8_certify 188 = .ok (.goto (-38), 3) := by decide +kernel
theorem dX8_certify_191 : decode cX8_certify 191 = .ok (.aload_n 0, 1) := by decide +kernel
theorem dX8_certify_192 : decode cX8_certify 192 = .ok (.getfield 66, 3) := by decide +kernel
theorem dX8_certify_195 : decode cX8_certify 195 = .ok (.bipush 12, 2) := by decide +kernel
theorem dX8_certify_197 : decode cX8_certify 197 = .ok (.iload_n 1, 1) := by decide +kernel
theorem dX8_certify_198 : decode cX8_certify 198 = .ok (.imul, 1) := by decide +kernel
theorem dX8_certify_199 : decode cX8_certify 199 = .ok (.aload_n 0, 1) := by decide +kernel
theorem dX8_certify_200 : decode cX8_certify 200 = .ok (.getfield 7, 3) := by decide +kernel
theorem dX8_certify_203 : decode cX8_certify 203 = .ok (.iadd, 1) := by decide +kernel
theorem dX8_certify_204 : decode cX8_certify 204 = .ok (.aload_n 0, 1) := by decide +kernel
theorem dX8_certify_205 : decode cX8_certify 205 = .ok (.getfield 88, 3) := by decide +kernel
theorem dX8_certify_208 : decode cX8_certify 208 = .ok (.iadd, 1) := by decide +kernel
theorem dX8_certify_209 : decode cX8_certify 209 = .ok (.aload_n 0, 1) := by decide +kernel
theorem dX8_certify_210 : decode cX8_certify 210 = .ok (.getfield 161, 3) := by decide +kernel
theorem dX8_certify_213 : decode cX8_certify 213 = .ok (.lload_n 3, 1) := by decide +kernel
theorem dX8_certify_214 : decode cX8_certify 214 = .ok (.ldiv, 1) := by decide +kernel
theorem dX8_certify_215 : decode cX8_certify 215 = .ok (.lastore, 1) := by decide +kernel
theorem dX8_certify_216 : decode cX8_certify 216 = .ok (.aload_n 0, 1) := by decide +kernel
theorem dX8_certify_217 : decode cX8_certify 217 = .ok (.getfield 7, 3) := by decide +kernel
theorem dX8_certify_220 : decode cX8_certify 220 = .ok (.aload_n 0, 1) := by decide +kernel
theorem dX8_certify_221 : decode cX8_certify 221 = .ok (.getfield 88, 3) := by decide +kernel
theorem dX8_certify_224 : decode cX8_certify 224 = .ok (.iadd, 1) := by decide +kernel
theorem dX8_certify_225 : decode cX8_certify 225 = .ok (.iconst 1, 1) := by decide +kernel
theorem dX8_certify_226 : decode cX8_certify 226 = .ok (.iadd, 1) := by decide +kernel
theorem dX8_certify_227 : decode cX8_certify 227 = .ok (.ireturn, 1) := by decide +kernel
theorem dX8_isStill_0 : decode cX8_isStill 0 = .ok (.iconst 1, 1) := by decide +kernel
theorem dX8_isStill_1 : decode cX8_isStill 1 = .ok (.istore_n 1, 1) := by decide +kernel
theorem dX8_isStill_2 : decode cX8_isStill 2 = .ok (.iconst 0, 1) := by decide +kernel
theorem dX8_isStill_3 : decode cX8_isStill 3 = .ok (.istore_n 2, 1) := by decide +kernel
theorem dX8_isStill_4 : decode cX8_isStill 4 = .ok (.iload_n 2, 1) := by decide +kernel
theorem dX8_isStill_5 : decode cX8_isStill 5 = .ok (.aload_n 0, 1) := by decide +kernel
theorem dX8_isStill_6 : decode cX8_isStill 6 = .ok (.getfield 7, 3) := by decide +kernel
theorem dX8_isStill_9 : decode cX8_isStill 9 = .ok (.if_icmp .ge 114, 3) := by decide +kernel
theorem dX8_isStill_12 : decode cX8_isStill 12 = .ok (.aload_n 0, 1) := by decide +kernel
theorem dX8_isStill_13 : decode cX8_isStill 13 = .ok (.getfield 17, 3) := by decide +kernel
theorem dX8_isStill_16 : decode cX8_isStill 16 = .ok (.iload_n 2, 1) := by decide +kernel
theorem dX8_isStill_17 : decode cX8_isStill 17 = .ok (.iaload, 1) := by decide +kernel
theorem dX8_isStill_18 : decode cX8_isStill 18 = .ok (.i2l, 1) := by decide +kernel
theorem dX8_isStill_19 : decode cX8_isStill 19 = .ok (.aload_n 0, 1) := by decide +kernel
theorem dX8_isStill_20 : decode cX8_isStill 20 = .ok (.getfield 161, 3) := by decide +kernel
theorem dX8_isStill_23 : decode cX8_isStill 23 = .ok (.lmul, 1) := by decide +kernel
theorem dX8_isStill_24 : decode cX8_isStill 24 = .ok (.lstore_n 3, 1) := by decide +kernel
theorem dX8_isStill_25 : decode cX8_isStill 25 = .ok (.iconst 0, 1) := by decide +kernel
theorem dX8_isStill_26 : decode cX8_isStill 26 = .ok (.istore 5, 2) := by decide +kernel
theorem dX8_isStill_28 : decode cX8_isStill 28 = .ok (.iload 5, 2) := by decide +kernel
theorem dX8_isStill_30 : decode cX8_isStill 30 = .ok (.aload_n 0, 1) := by decide +kernel
theorem dX8_isStill_31 : decode cX8_isStill 31 = .ok (.getfield 7, 3) := by decide +kernel
theorem dX8_isStill_34 : decode cX8_isStill 34 = .ok (.if_icmp .ge 32, 3) := by decide +kernel
theorem dX8_isStill_37 : decode cX8_isStill 37 = .ok (.lload_n 3, 1) := by decide +kernel
theorem dX8_isStill_38 : decode cX8_isStill 38 = .ok (.aload_n 0, 1) := by decide +kernel
theorem dX8_isStill_39 : decode cX8_isStill 39 = .ok (.getfield 13, 3) := by decide +kernel
theorem dX8_isStill_42 : decode cX8_isStill 42 = .ok (.iconst 3, 1) := by decide +kernel
theorem dX8_isStill_43 : decode cX8_isStill 43 = .ok (.iload_n 2, 1) := by decide +kernel
theorem dX8_isStill_44 : decode cX8_isStill 44 = .ok (.imul, 1) := by decide +kernel
theorem dX8_isStill_45 : decode cX8_isStill 45 = .ok (.iload 5, 2) := by decide +kernel
theorem dX8_isStill_47 : decode cX8_isStill 47 = .ok (.iadd, 1) := by decide +kernel
theorem dX8_isStill_48 : decode cX8_isStill 48 = .ok (.iaload, 1) := by decide +kernel
theorem dX8_isStill_49 : decode cX8_isStill 49 = .ok (.i2l, 1) := by decide +kernel
theorem dX8_isStill_50 : decode cX8_isStill 50 = .ok (.aload_n 0, 1) := by decide +kernel
theorem dX8_isStill_51 : decode cX8_isStill 51 = .ok (.getfield 36, 3) := by decide +kernel
theorem dX8_isStill_54 : decode cX8_isStill 54 = .ok (.iload 5, 2) := by decide +kernel
theorem dX8_isStill_56 : decode cX8_isStill 56 = .ok (.laload, 1) := by decide +kernel
theorem dX8_isStill_57 : decode cX8_isStill 57 = .ok (.lmul, 1) := by decide +kernel
theorem dX8_isStill_58 : decode cX8_isStill 58 = .ok (.ladd, 1) := by decide +kernel
theorem dX8_isStill_59 : decode cX8_isStill 59 = .ok (.lstore_n 3, 1) := by decide +kernel
theorem dX8_isStill_60 : decode cX8_isStill 60 = .ok (.iinc 5 1, 3) := by decide +kernel
theorem dX8_isStill_63 : decode cX8_isStill 63 = .ok (.goto (-35), 3) := by decide +kernel
theorem dX8_isStill_66 : decode cX8_isStill 66 = .ok (.iconst 0, 1) := by decide +kernel
theorem dX8_isStill_67 : decode cX8_isStill 67 = .ok (.istore 5, 2) := by decide +kernel
theorem dX8_isStill_69 : decode cX8_isStill 69 = .ok (.iload 5, 2) := by decide +kernel
theorem dX8_isStill_71 : decode cX8_isStill 71 = .ok (.aload_n 0, 1) := by decide +kernel
theorem dX8_isStill_72 : decode cX8_isStill 72 = .ok (.getfield 88, 3) := by decide +kernel
theorem dX8_isStill_75 : decode cX8_isStill 75 = .ok (.if_icmp .ge 28, 3) := by decide +kernel
theorem dX8_isStill_78 : decode cX8_isStill 78 = .ok (.lload_n 3, 1) := by decide +kernel
theorem dX8_isStill_79 : decode cX8_isStill 79 = .ok (.aload_n 0, 1) := by decide +kernel
theorem dX8_isStill_80 : decode cX8_isStill 80 = .ok (.iload 5, 2) := by decide +kernel
theorem dX8_isStill_82 : decode cX8_isStill 82 = .ok (.iload_n 2, 1) := by decide +kernel
theorem dX8_isStill_83 : decode cX8_isStill 83 = .ok (.invokevirtual 129, 3) := by decide +kernel
theorem dX8_isStill_86 : decode cX8_isStill 86 = .ok (.i2l, 1) := by decide +kernel
theorem dX8_isStill_87 : decode cX8_isStill 87 = .ok (.aload_n 0, 1) := by decide +kernel
theorem dX8_isStill_88 : decode cX8_isStill 88 = .ok (.getfield 39, 3) := by decide +kernel
theorem dX8_isStill_91 : decode cX8_isStill 91 = .ok (.iload 5, 2) := by decide +kernel
theorem dX8_isStill_93 : decode cX8_isStill 93 = .ok (.laload, 1) := by decide +kernel
theorem dX8_isStill_94 : decode cX8_isStill 94 = .ok (.lmul, 1) := by decide +kernel
theorem dX8_isStill_95 : decode cX8_isStill 95 = .ok (.ladd, 1) := by decide +kernel
theorem dX8_isStill_96 : decode cX8_isStill 96 = .ok (.lstore_n 3, 1) := by decide +kernel
theorem dX8_isStill_97 : decode cX8_isStill 97 = .ok (.iinc 5 1, 3) := by decide +kernel
theorem dX8_isStill_100 : decode cX8_isStill 100 = .ok (.goto (-31), 3) := by decide +kernel
theorem dX8_isStill_103 : decode cX8_isStill 103 = .ok (.iload_n 1, 1) := by decide +kernel
theorem dX8_isStill_104 : decode cX8_isStill 104 = .ok (.lload_n 3, 1) := by decide +kernel
theorem dX8_isStill_105 : decode cX8_isStill 105 = .ok (.lconst 0, 1) := by decide +kernel
theorem dX8_isStill_106 : decode cX8_isStill 106 = .ok (.lcmp, 1) := by decide +kernel
theorem dX8_isStill_107 : decode cX8_isStill 107 = .ok (.ifCond .ne 7, 3) := by decide +kernel
theorem dX8_isStill_110 : decode cX8_isStill 110 = .ok (.iconst 1, 1) := by decide +kernel
theorem dX8_isStill_111 : decode cX8_isStill 111 = .ok (.goto 4, 3) := by decide +kernel
theorem dX8_isStill_114 : decode cX8_isStill 114 = .ok (.iconst 0, 1) := by decide +kernel
theorem dX8_isStill_115 : decode cX8_isStill 115 = .ok (.iand, 1) := by decide +kernel
theorem dX8_isStill_116 : decode cX8_isStill 116 = .ok (.istore_n 1, 1) := by decide +kernel
theorem dX8_isStill_117 : decode cX8_isStill 117 = .ok (.iinc 2 1, 3) := by decide +kernel
theorem dX8_isStill_120 : decode cX8_isStill 120 = .ok (.goto (-116), 3) := by decide +kernel
theorem dX8_isStill_123 : decode cX8_isStill 123 = .ok (.iload_n 1, 1) := by decide +kernel
theorem dX8_isStill_124 : decode cX8_isStill 124 = .ok (.ireturn, 1) := by decide +kernel
theorem dX8_check_0 : decode cX8_check 0 = .ok (.iload_n 1, 1) := by decide +kernel
theorem dX8_check_1 : decode cX8_check 1 = .ok (.invokestatic 251, 3) := by decide +kernel
theorem dX8_check_4 : decode cX8_check 4 = .ok (.ifCond .ne 6, 3) := by decide +kernel
theorem dX8_check_7 : decode cX8_check 7 = .ok (.bipush (-2), 2) := by decide +kernel
theorem dX8_check_9 : decode cX8_check 9 = .ok (.ireturn, 1) := by decide +kernel
theorem dX8_check_10 : decode cX8_check 10 = .ok (.aload_n 0, 1) := by decide +kernel
theorem dX8_check_11 : decode cX8_check 11 = .ok (.getfield 60, 3) := by decide +kernel
theorem dX8_check_14 : decode cX8_check 14 = .ok (.iload_n 1, 1) := by decide +kernel
theorem dX8_check_15 : decode cX8_check 15 = .ok (.iaload, 1) := by decide +kernel
theorem dX8_check_16 : decode cX8_check 16 = .ok (.ifCond .ge 6, 3) := by decide +kernel
theorem dX8_check_19 : decode cX8_check 19 = .ok (.bipush (-11), 2) := by decide +kernel
theorem dX8_check_21 : decode cX8_check 21 = .ok (.ireturn, 1) := by decide +kernel
theorem dX8_check_22 : decode cX8_check 22 = .ok (.aload_n 0, 1) := by decide +kernel
theorem dX8_check_23 : decode cX8_check 23 = .ok (.getfield 63, 3) := by decide +kernel
theorem dX8_check_26 : decode cX8_check 26 = .ok (.iload_n 1, 1) := by decide +kernel
theorem dX8_check_27 : decode cX8_check 27 = .ok (.iaload, 1) := by decide +kernel
theorem dX8_check_28 : decode cX8_check 28 = .ok (.aload_n 0, 1) := by decide +kernel
theorem dX8_check_29 : decode cX8_check 29 = .ok (.getfield 7, 3) := by decide +kernel
theorem dX8_check_32 : decode cX8_check 32 = .ok (.aload_n 0, 1) := by decide +kernel
theorem dX8_check_33 : decode cX8_check 33 = .ok (.getfield 88, 3) := by decide +kernel
theorem dX8_check_36 : decode cX8_check 36 = .ok (.iadd, 1) := by decide +kernel
theorem dX8_check_37 : decode cX8_check 37 = .ok (.iconst 1, 1) := by decide +kernel
theorem dX8_check_38 : decode cX8_check 38 = .ok (.iadd, 1) := by decide +kernel
theorem dX8_check_39 : decode cX8_check 39 = .ok (.if_icmp .eq 6, 3) := by decide +kernel
theorem dX8_check_42 : decode cX8_check 42 = .ok (.bipush (-14), 2) := by decide +kernel
theorem dX8_check_44 : decode cX8_check 44 = .ok (.ireturn, 1) := by decide +kernel
theorem dX8_check_45 : decode cX8_check 45 = .ok (.iconst 0, 1) := by decide +kernel
theorem dX8_check_46 : decode cX8_check 46 = .ok (.istore_n 2, 1) := by decide +kernel
theorem dX8_check_47 : decode cX8_check 47 = .ok (.iconst 0, 1) := by decide +kernel
theorem dX8_check_48 : decode cX8_check 48 = .ok (.istore_n 3, 1) := by decide +kernel
theorem dX8_check_49 : decode cX8_check 49 = .ok (.iload_n 3, 1) := by decide +kernel
theorem dX8_check_50 : decode cX8_check 50 = .ok (.aload_n 0, 1) := by decide +kernel
theorem dX8_check_51 : decode cX8_check 51 = .ok (.getfield 63, 3) := by decide +kernel
theorem dX8_check_54 : decode cX8_check 54 = .ok (.iload_n 1, 1) := by decide +kernel
theorem dX8_check_55 : decode cX8_check 55 = .ok (.iaload, 1) := by decide +kernel
theorem dX8_check_56 : decode cX8_check 56 = .ok (.if_icmp .ge 40, 3) := by decide +kernel
theorem dX8_check_59 : decode cX8_check 59 = .ok (.iload_n 2, 1) := by decide +kernel
theorem dX8_check_60 : decode cX8_check 60 = .ok (.aload_n 0, 1) := by decide +kernel
theorem dX8_check_61 : decode cX8_check 61 = .ok (.getfield 66, 3) := by decide +kernel
theorem dX8_check_64 : decode cX8_check 64 = .ok (.bipush 12, 2) := by decide +kernel
theorem dX8_check_66 : decode cX8_check 66 = .ok (.iload_n 1, 1) := by decide +kernel
theorem dX8_check_67 : decode cX8_check 67 = .ok (.imul, 1) := by decide +kernel
theorem dX8_check_68 : decode cX8_check 68 = .ok (.iload_n 3, 1) := by decide +kernel
theorem dX8_check_69 : decode cX8_check 69 = .ok (.iadd, 1) := by decide +kernel
theorem dX8_check_70 : decode cX8_check 70 = .ok (.laload, 1) := by decide +kernel
theorem dX8_check_71 : decode cX8_check 71 = .ok (.ldc2_w 258, 3) := by decide +kernel
theorem dX8_check_74 : decode cX8_check 74 = .ok (.ldc2_w 260, 3) := by decide +kernel
theorem dX8_check_77 : decode cX8_check 77 = .ok (.invokestatic 84, 3) := by decide +kernel
theorem dX8_check_80 : decode cX8_check 80 = .ok (.ifCond .ne 7, 3) := by decide +kernel
theorem dX8_check_83 : decode cX8_check 83 = .ok (.iconst 1, 1) := by decide +kernel
theorem dX8_check_84 : decode cX8_check 84 = .ok (.goto 4, 3) := by decide +kernel
theorem dX8_check_87 : decode cX8_check 87 = .ok (.iconst 0, 1) := by decide +kernel
theorem dX8_check_88 : decode cX8_check 88 = .ok (.ior, 1) := by decide +kernel
theorem dX8_check_89 : decode cX8_check 89 = .ok (.istore_n 2, 1) := by decide +kernel
theorem dX8_check_90 : decode cX8_check 90 = .ok (.iinc 3 1, 3) := by decide +kernel
theorem dX8_check_93 : decode cX8_check 93 = .ok (.goto (-44), 3) := by decide +kernel
theorem dX8_check_96 : decode cX8_check 96 = .ok (.iload_n 2, 1) := by decide +kernel
theorem dX8_check_97 : decode cX8_check 97 = .ok (.ifCond .eq 6, 3) := by decide +kernel
theorem dX8_check_100 : decode cX8_check 100 = .ok (.bipush (-5), 2) := by decide +kernel
theorem dX8_check_102 : decode cX8_check 102 = .ok (.ireturn, 1) := by decide +kernel
theorem dX8_check_103 : decode cX8_check 103 = .ok (.iconst 0, 1) := by decide +kernel
theorem dX8_check_104 : decode cX8_check 104 = .ok (.istore_n 3, 1) := by decide +kernel
theorem dX8_check_105 : decode cX8_check 105 = .ok (.iload_n 3, 1) := by decide +kernel
theorem dX8_check_106 : decode cX8_check 106 = .ok (.aload_n 0, 1) := by decide +kernel
theorem dX8_check_107 : decode cX8_check 107 = .ok (.getfield 7, 3) := by decide +kernel
theorem dX8_check_110 : decode cX8_check 110 = .ok (.if_icmp .ge 26, 3) := by decide +kernel
theorem dX8_check_113 : decode cX8_check 113 = .ok (.aload_n 0, 1) := by decide +kernel
theorem dX8_check_114 : decode cX8_check 114 = .ok (.getfield 36, 3) := by decide +kernel
theorem dX8_check_117 : decode cX8_check 117 = .ok (.iload_n 3, 1) := by decide +kernel
theorem dX8_check_118 : decode cX8_check 118 = .ok (.aload_n 0, 1) := by decide +kernel
theorem dX8_check_119 : decode cX8_check 119 = .ok (.getfield 66, 3) := by decide +kernel
theorem dX8_check_122 : decode cX8_check 122 = .ok (.bipush 12, 2) := by decide +kernel
theorem dX8_check_124 : decode cX8_check 124 = .ok (.iload_n 1, 1) := by decide +kernel
theorem dX8_check_125 : decode cX8_check 125 = .ok (.imul, 1) := by decide +kernel
theorem dX8_check_126 : decode cX8_check 126 = .ok (.iload_n 3, 1) := by decide +kernel
theorem dX8_check_127 : decode cX8_check 127 = .ok (.iadd, 1) := by decide +kernel
theorem dX8_check_128 : decode cX8_check 128 = .ok (.laload, 1) := by decide +kernel
theorem dX8_check_129 : decode cX8_check 129 = .ok (.lastore, 1) := by decide +kernel
theorem dX8_check_130 : decode cX8_check 130 = .ok (.iinc 3 1, 3) := by decide +kernel
theorem dX8_check_133 : decode cX8_check 133 = .ok (.goto (-28), 3) := by decide +kernel
theorem dX8_check_136 : decode cX8_check 136 = .ok (.iconst 0, 1) := by decide +kernel
theorem dX8_check_137 : decode cX8_check 137 = .ok (.istore_n 3, 1) := by decide +kernel
theorem dX8_check_138 : decode cX8_check 138 = .ok (.iload_n 3, 1) := by decide +kernel
theorem dX8_check_139 : decode cX8_check 139 = .ok (.bipush 6, 2) := by decide +kernel
theorem dX8_check_141 : decode cX8_check 141 = .ok (.if_icmp .ge 43, 3) := by decide +kernel
theorem dX8_check_144 : decode cX8_check 144 = .ok (.aload_n 0, 1) := by decide +kernel
theorem dX8_check_145 : decode cX8_check 145 = .ok (.getfield 39, 3) := by decide +kernel
theorem dX8_check_148 : decode cX8_check 148 = .ok (.iload_n 3, 1) := by decide +kernel
theorem dX8_check_149 : decode cX8_check 149 = .ok (.iload_n 3, 1) := by decide +kernel
theorem dX8_check_150 : decode cX8_check 150 = .ok (.aload_n 0, 1) := by decide +kernel
theorem dX8_check_151 : decode cX8_check 151 = .ok (.getfield 88, 3) := by decide +kernel
theorem dX8_check_154 : decode cX8_check 154 = .ok (.if_icmp .ge 22, 3) := by decide +kernel
theorem dX8_check_157 : decode cX8_check 157 = .ok (.aload_n 0, 1) := by decide +kernel
theorem dX8_check_158 : decode cX8_check 158 = .ok (.getfield 66, 3) := by decide +kernel
theorem dX8_check_161 : decode cX8_check 161 = .ok (.bipush 12, 2) := by decide +kernel
theorem dX8_check_163 : decode cX8_check 163 = .ok (.iload_n 1, 1) := by decide +kernel
theorem dX8_check_164 : decode cX8_check 164 = .ok (.imul, 1) := by decide +kernel
theorem dX8_check_165 : decode cX8_check 165 = .ok (.aload_n 0, 1) := by decide +kernel
theorem dX8_check_166 : decode cX8_check 166 = .ok (.getfield 7, 3) := by decide +kernel
theorem dX8_check_169 : decode cX8_check 169 = .ok (.iadd, 1) := by decide +kernel
theorem dX8_check_170 : decode cX8_check 170 = .ok (.iload_n 3, 1) := by decide +kernel
theorem dX8_check_171 : decode cX8_check 171 = .ok (.iadd, 1) := by decide +kernel
theorem dX8_check_172 : decode cX8_check 172 = .ok (.laload, 1) := by decide +kernel
theorem dX8_check_173 : decode cX8_check 173 = .ok (.goto 4, 3) := by decide +kernel
theorem dX8_check_176 : decode cX8_check 176 = .ok (.lconst 0, 1) := by decide +kernel
theorem dX8_check_177 : decode cX8_check 177 = .ok (.lastore, 1) := by decide +kernel
theorem dX8_check_178 : decode cX8_check 178 = .ok (.iinc 3 1, 3) := by decide +kernel
theorem dX8_check_181 : decode cX8_check 181 = .ok (.goto (-43), 3) := by decide +kernel
theorem dX8_check_184 : decode cX8_check 184 = .ok (.aload_n 0, 1) := by decide +kernel
theorem dX8_check_185 : decode cX8_check 185 = .ok (.aload_n 0, 1) := by decide +kernel
theorem dX8_check_186 : decode cX8_check 186 = .ok (.getfield 66, 3) := by decide +kernel
theorem dX8_check_189 : decode cX8_check 189 = .ok (.bipush 12, 2) := by decide +kernel
theorem dX8_check_191 : decode cX8_check 191 = .ok (.iload_n 1, 1) := by decide +kernel
theorem dX8_check_192 : decode cX8_check 192 = .ok (.imul, 1) := by decide +kernel
theorem dX8_check_193 : decode cX8_check 193 = .ok (.aload_n 0, 1) := by decide +kernel
theorem dX8_check_194 : decode cX8_check 194 = .ok (.getfield 7, 3) := by decide +kernel
theorem dX8_check_197 : decode cX8_check 197 = .ok (.iadd, 1) := by decide +kernel
theorem dX8_check_198 : decode cX8_check 198 = .ok (.aload_n 0, 1) := by decide +kernel
theorem dX8_check_199 : decode cX8_check 199 = .ok (.getfield 88, 3) := by decide +kernel
theorem dX8_check_202 : decode cX8_check 202 = .ok (.iadd, 1) := by decide +kernel
theorem dX8_check_203 : decode cX8_check 203 = .ok (.laload, 1) := by decide +kernel
theorem dX8_check_204 : decode cX8_check 204 = .ok (.putfield 161, 3) := by decide +kernel
theorem dX8_check_207 : decode cX8_check 207 = .ok (.iconst 1, 1) := by decide +kernel
theorem dX8_check_208 : decode cX8_check 208 = .ok (.istore_n 3, 1) := by decide +kernel
theorem dX8_check_209 : decode cX8_check 209 = .ok (.iconst 1, 1) := by decide +kernel
theorem dX8_check_210 : decode cX8_check 210 = .ok (.istore 4, 2) := by decide +kernel
theorem dX8_check_212 : decode cX8_check 212 = .ok (.iconst 0, 1) := by decide +kernel
theorem dX8_check_213 : decode cX8_check 213 = .ok (.istore 5, 2) := by decide +kernel
theorem dX8_check_215 : decode cX8_check 215 = .ok (.iload 5, 2) := by decide +kernel
theorem dX8_check_217 : decode cX8_check 217 = .ok (.aload_n 0, 1) := by decide +kernel
theorem dX8_check_218 : decode cX8_check 218 = .ok (.getfield 88, 3) := by decide +kernel
theorem dX8_check_221 : decode cX8_check 221 = .ok (.if_icmp .ge 71, 3) := by decide +kernel
theorem dX8_check_224 : decode cX8_check 224 = .ok (.iload_n 3, 1) := by decide +kernel
theorem dX8_check_225 : decode cX8_check 225 = .ok (.aload_n 0, 1) := by decide +kernel
theorem dX8_check_226 : decode cX8_check 226 = .ok (.iload 5, 2) := by decide +kernel
theorem dX8_check_228 : decode cX8_check 228 = .ok (.invokevirtual 175, 3) := by decide +kernel
theorem dX8_check_231 : decode cX8_check 231 = .ok (.ifCond .ne 15, 3) := by decide +kernel
theorem dX8_check_234 : decode cX8_check 234 = .ok (.aload_n 0, 1) := by decide +kernel
theorem dX8_check_235 : decode cX8_check 235 = .ok (.getfield 39, 3) := by decide +kernel
theorem dX8_check_238 : decode cX8_check 238 = .ok (.iload 5, 2) := by decide +kernel
theorem dX8_check_240 : decode cX8_check 240 = .ok (.laload, 1) := by decide +kernel
theorem dX8_check_241 : decode cX8_check 241 = .ok (.lconst 0, 1) := by decide +kernel
theorem dX8_check_242 : decode cX8_check 242 = .ok (.lcmp, 1) := by decide +kernel
theorem dX8_check_243 : decode cX8_check 243 = .ok (.ifCond .lt 7, 3) := by decide +kernel
theorem dX8_check_246 : decode cX8_check 246 = .ok (.iconst 1, 1) := by decide +kernel
theorem dX8_check_247 : decode cX8_check 247 = .ok (.goto 4, 3) := by decide +kernel
theorem dX8_check_250 : decode cX8_check 250 = .ok (.iconst 0, 1) := by decide +kernel
theorem dX8_check_251 : decode cX8_check 251 = .ok (.iand, 1) := by decide +kernel
theorem dX8_check_252 : decode cX8_check 252 = .ok (.istore_n 3, 1) := by decide +kernel
theorem dX8_check_253 : decode cX8_check 253 = .ok (.iload 4, 2) := by decide +kernel
theorem dX8_check_255 : decode cX8_check 255 = .ok (.aload_n 0, 1) := by decide +kernel
theorem dX8_check_256 : decode cX8_check 256 = .ok (.getfield 39, 3) := by decide +kernel
theorem dX8_check_259 : decode cX8_check 259 = .ok (.iload 5, 2) := by decide +kernel
theorem dX8_check_261 : decode cX8_check 261 = .ok (.laload, 1) := by decide +kernel
theorem dX8_check_262 : decode cX8_check 262 = .ok (.lconst 0, 1) := by decide +kernel
theorem dX8_check_263 : decode cX8_check 263 = .ok (.lcmp, 1) := by decide +kernel
theorem dX8_check_264 : decode cX8_check 264 = .ok (.ifCond .eq 14, 3) := by decide +kernel
theorem dX8_check_267 : decode cX8_check 267 = .ok (.aload_n 0, 1) := by decide +kernel
theorem dX8_check_268 : decode cX8_check 268 = .ok (.iload 5, 2) := by decide +kernel
theorem dX8_check_270 : decode cX8_check 270 = .ok (.invokevirtual 172, 3) := by decide +kernel
theorem dX8_check_273 : decode cX8_check 273 = .ok (.lconst 0, 1) := by decide +kernel
theorem dX8_check_274 : decode cX8_check 274 = .ok (.lcmp, 1) := by decide +kernel
theorem dX8_check_275 : decode cX8_check 275 = .ok (.ifCond .ne 7, 3) := by decide +kernel
theorem dX8_check_278 : decode cX8_check 278 = .ok (.iconst 1, 1) := by decide +kernel
theorem dX8_check_279 : decode cX8_check 279 = .ok (.goto 4, 3) := by decide +kernel
theorem dX8_check_282 : decode cX8_check 282 = .ok (.iconst 0, 1) := by decide +kernel
theorem dX8_check_283 : decode cX8_check 283 = .ok (.iand, 1) := by decide +kernel
theorem dX8_check_284 : decode cX8_check 284 = .ok (.istore 4, 2) := by decide +kernel
theorem dX8_check_286 : decode cX8_check 286 = .ok (.iinc 5 1, 3) := by decide +kernel
theorem dX8_check_289 : decode cX8_check 289 = .ok (.goto (-74), 3) := by decide +kernel
theorem dX8_check_292 : decode cX8_check 292 = .ok (.aload_n 0, 1) := by decide +kernel
theorem dX8_check_293 : decode cX8_check 293 = .ok (.getfield 161, 3) := by decide +kernel
theorem dX8_check_296 : decode cX8_check 296 = .ok (.lconst 1, 1) := by decide +kernel
theorem dX8_check_297 : decode cX8_check 297 = .ok (.lcmp, 1) := by decide +kernel
theorem dX8_check_298 : decode cX8_check 298 = .ok (.ifCond .ge 7, 3) := by decide +kernel
theorem dX8_check_301 : decode cX8_check 301 = .ok (.iconst 1, 1) := by decide +kernel
theorem dX8_check_302 : decode cX8_check 302 = .ok (.goto 47, 3) := by decide +kernel
theorem dX8_check_305 : decode cX8_check 305 = .ok (.aload_n 0, 1) := by decide +kernel
theorem dX8_check_306 : decode cX8_check 306 = .ok (.invokevirtual 262, 3) := by decide +kernel
theorem dX8_check_309 : decode cX8_check 309 = .ok (.ifCond .ne 7, 3) := by decide +kernel
theorem dX8_check_312 : decode cX8_check 312 = .ok (.iconst 2, 1) := by decide +kernel
theorem dX8_check_313 : decode cX8_check 313 = .ok (.goto 36, 3) := by decide +kernel
theorem dX8_check_316 : decode cX8_check 316 = .ok (.iload_n 3, 1) := by decide +kernel
theorem dX8_check_317 : decode cX8_check 317 = .ok (.ifCond .ne 7, 3) := by decide +kernel
theorem dX8_check_320 : decode cX8_check 320 = .ok (.iconst 3, 1) := by decide +kernel
theorem dX8_check_321 : decode cX8_check 321 = .ok (.goto 28, 3) := by decide +kernel
theorem dX8_check_324 : decode cX8_check 324 = .ok (.aload_n 0, 1) := by decide +kernel
theorem dX8_check_325 : decode cX8_check 325 = .ok (.invokevirtual 210, 3) := by decide +kernel
theorem dX8_check_328 : decode cX8_check 328 = .ok (.aload_n 0, 1) := by decide +kernel
theorem dX8_check_329 : decode cX8_check 329 = .ok (.invokevirtual 220, 3) := by decide +kernel
theorem dX8_check_332 : decode cX8_check 332 = .ok (.if_icmp .eq 7, 3) := by decide +kernel
theorem dX8_check_335 : decode cX8_check 335 = .ok (.iconst 4, 1) := by decide +kernel
theorem dX8_check_336 : decode cX8_check 336 = .ok (.goto 13, 3) := by decide +kernel
theorem dX8_check_339 : decode cX8_check 339 = .ok (.iload 4, 2) := by decide +kernel
theorem dX8_check_341 : decode cX8_check 341 = .ok (.ifCond .ne 7, 3) := by decide +kernel
theorem dX8_check_344 : decode cX8_check 344 = .ok (.iconst 5, 1) := by decide +kernel
theorem dX8_check_345 : decode cX8_check 345 = .ok (.goto 4, 3) := by decide +kernel
theorem dX8_check_348 : decode cX8_check 348 = .ok (.iconst 0, 1) := by decide +kernel
theorem dX8_check_349 : decode cX8_check 349 = .ok (.ireturn, 1) := by decide +kernel
theorem dX8_solve_0 : decode cX8_solve 0 = .ok (.aload_n 0, 1) := by decide +kernel
theorem dX8_solve_1 : decode cX8_solve 1 = .ok (.invokevirtual 146, 3) := by decide +kernel
theorem dX8_solve_4 : decode cX8_solve 4 = .ok (.ifCond .ne 6, 3) := by decide +kernel
theorem dX8_solve_7 : decode cX8_solve 7 = .ok (.bipush (-3), 2) := by decide +kernel
theorem dX8_solve_9 : decode cX8_solve 9 = .ok (.ireturn, 1) := by decide +kernel
theorem dX8_solve_10 : decode cX8_solve 10 = .ok (.aload_n 0, 1) := by decide +kernel
theorem dX8_solve_11 : decode cX8_solve 11 = .ok (.aload_n 0, 1) := by decide +kernel
theorem dX8_solve_12 : decode cX8_solve 12 = .ok (.invokevirtual 220, 3) := by decide +kernel
theorem dX8_solve_15 : decode cX8_solve 15 = .ok (.invokevirtual 190, 3) := by decide +kernel
theorem dX8_solve_18 : decode cX8_solve 18 = .ok (.istore_n 1, 1) := by decide +kernel
theorem dX8_solve_19 : decode cX8_solve 19 = .ok (.iload_n 1, 1) := by decide +kernel
theorem dX8_solve_20 : decode cX8_solve 20 = .ok (.iconst (-1), 1) := by decide +kernel
theorem dX8_solve_21 : decode cX8_solve 21 = .ok (.if_icmp .eq 57, 3) := by decide +kernel
theorem dX8_solve_24 : decode cX8_solve 24 = .ok (.aload_n 0, 1) := by decide +kernel
theorem dX8_solve_25 : decode cX8_solve 25 = .ok (.invokevirtual 207, 3) := by decide +kernel
theorem dX8_solve_28 : decode cX8_solve 28 = .ok (.lstore_n 2, 1) := by decide +kernel
theorem dX8_solve_29 : decode cX8_solve 29 = .ok (.aload_n 0, 1) := by decide +kernel
theorem dX8_solve_30 : decode cX8_solve 30 = .ok (.getfield 265, 3) := by decide +kernel
theorem dX8_solve_33 : decode cX8_solve 33 = .ok (.lconst 0, 1) := by decide +kernel
theorem dX8_solve_34 : decode cX8_solve 34 = .ok (.lcmp, 1) := by decide +kernel
theorem dX8_solve_35 : decode cX8_solve 35 = .ok (.ifCond .eq 26, 3) := by decide +kernel
theorem dX8_solve_38 : decode cX8_solve 38 = .ok (.lload_n 2, 1) := by decide +kernel
theorem dX8_solve_39 : decode cX8_solve 39 = .ok (.ldc2_w 117, 3) := by decide +kernel
theorem dX8_solve_42 : decode cX8_solve 42 = .ok (.aload_n 0, 1) := by decide +kernel
theorem dX8_solve_43 : decode cX8_solve 43 = .ok (.getfield 161, 3) := by decide +kernel
theorem dX8_solve_46 : decode cX8_solve 46 = .ok (.lmul, 1) := by decide +kernel
theorem dX8_solve_47 : decode cX8_solve 47 = .ok (.aload_n 0, 1) := by decide +kernel
theorem dX8_solve_48 : decode cX8_solve 48 = .ok (.getfield 268, 3) := by decide +kernel
theorem dX8_solve_51 : decode cX8_solve 51 = .ok (.aload_n 0, 1) := by decide +kernel
theorem dX8_solve_52 : decode cX8_solve 52 = .ok (.getfield 265, 3) := by decide +kernel
theorem dX8_solve_55 : decode cX8_solve 55 = .ok (.invokestatic 80, 3) := by decide +kernel
theorem dX8_solve_58 : decode cX8_solve 58 = .ok (.ifCond .eq 20, 3) := by decide +kernel
theorem dX8_solve_61 : decode cX8_solve 61 = .ok (.aload_n 0, 1) := by decide +kernel
theorem dX8_solve_62 : decode cX8_solve 62 = .ok (.lload_n 2, 1) := by decide +kernel
theorem dX8_solve_63 : decode cX8_solve 63 = .ok (.putfield 268, 3) := by decide +kernel
theorem dX8_solve_66 : decode cX8_solve 66 = .ok (.aload_n 0, 1) := by decide +kernel
theorem dX8_solve_67 : decode cX8_solve 67 = .ok (.ldc2_w 117, 3) := by decide +kernel
theorem dX8_solve_70 : decode cX8_solve 70 = .ok (.aload_n 0, 1) := by decide +kernel
theorem dX8_solve_71 : decode cX8_solve 71 = .ok (.getfield 161, 3) := by decide +kernel
theorem dX8_solve_74 : decode cX8_solve 74 = .ok (.lmul, 1) := by decide +kernel
theorem dX8_solve_75 : decode cX8_solve 75 = .ok (.putfield 265, 3) := by decide +kernel
theorem dX8_solve_78 : decode cX8_solve 78 = .ok (.bipush 7, 2) := by decide +kernel
theorem dX8_solve_80 : decode cX8_solve 80 = .ok (.istore_n 2, 1) := by decide +kernel
theorem dX8_solve_81 : decode cX8_solve 81 = .ok (.iload_n 2, 1) := by decide +kernel
theorem dX8_solve_82 : decode cX8_solve 82 = .ok (.ifCond .le 23, 3) := by decide +kernel
theorem dX8_solve_85 : decode cX8_solve 85 = .ok (.aload_n 0, 1) := by decide +kernel
theorem dX8_solve_86 : decode cX8_solve 86 = .ok (.getfield 26, 3) := by decide +kernel
theorem dX8_solve_89 : decode cX8_solve 89 = .ok (.iload_n 2, 1) := by decide +kernel
theorem dX8_solve_90 : decode cX8_solve 90 = .ok (.aload_n 0, 1) := by decide +kernel
theorem dX8_solve_91 : decode cX8_solve 91 = .ok (.getfield 26, 3) := by decide +kernel
theorem dX8_solve_94 : decode cX8_solve 94 = .ok (.iload_n 2, 1) := by decide +kernel
theorem dX8_solve_95 : decode cX8_solve 95 = .ok (.iconst 1, 1) := by decide +kernel
theorem dX8_solve_96 : decode cX8_solve 96 = .ok (.isub, 1) := by decide +kernel
theorem dX8_solve_97 : decode cX8_solve 97 = .ok (.iaload, 1) := by decide +kernel
theorem dX8_solve_98 : decode cX8_solve 98 = .ok (.iastore, 1) := by decide +kernel
theorem dX8_solve_99 : decode cX8_solve 99 = .ok (.iinc 2 (-1), 3) := by decide +kernel
theorem dX8_solve_102 : decode cX8_solve 102 = .ok (.goto (-21), 3) := by decide +kernel
theorem dX8_solve_105 : decode cX8_solve 105 = .ok (.aload_n 0, 1) := by decide +kernel
theorem dX8_solve_106 : decode cX8_solve 106 = .ok (.getfield 26, 3) := by decide +kernel
theorem dX8_solve_109 : decode cX8_solve 109 = .ok (.iconst 0, 1) := by decide +kernel
theorem dX8_solve_110 : decode cX8_solve 110 = .ok (.iload_n 1, 1) := by decide +kernel
theorem dX8_solve_111 : decode cX8_solve 111 = .ok (.iastore, 1) := by decide +kernel
theorem dX8_solve_112 : decode cX8_solve 112 = .ok (.aload_n 0, 1) := by decide +kernel
theorem dX8_solve_113 : decode cX8_solve 113 = .ok (.aload_n 0, 1) := by decide +kernel
theorem dX8_solve_114 : decode cX8_solve 114 = .ok (.getfield 271, 3) := by decide +kernel
theorem dX8_solve_117 : decode cX8_solve 117 = .ok (.ldc2_w 274, 3) := by decide +kernel
theorem dX8_solve_120 : decode cX8_solve 120 = .ok (.lmul, 1) := by decide +kernel
theorem dX8_solve_121 : decode cX8_solve 121 = .ok (.iload_n 1, 1) := by decide +kernel
theorem dX8_solve_122 : decode cX8_solve 122 = .ok (.i2l, 1) := by decide +kernel
theorem dX8_solve_123 : decode cX8_solve 123 = .ok (.ladd, 1) := by decide +kernel
theorem dX8_solve_124 : decode cX8_solve 124 = .ok (.putfield 271, 3) := by decide +kernel
theorem dX8_solve_127 : decode cX8_solve 127 = .ok (.aload_n 0, 1) := by decide +kernel
theorem dX8_solve_128 : decode cX8_solve 128 = .ok (.dup, 1) := by decide +kernel
theorem dX8_solve_129 : decode cX8_solve 129 = .ok (.getfield 276, 3) := by decide +kernel
theorem dX8_solve_132 : decode cX8_solve 132 = .ok (.iconst 1, 1) := by decide +kernel
theorem dX8_solve_133 : decode cX8_solve 133 = .ok (.iadd, 1) := by decide +kernel
theorem dX8_solve_134 : decode cX8_solve 134 = .ok (.putfield 276, 3) := by decide +kernel
theorem dX8_solve_137 : decode cX8_solve 137 = .ok (.iload_n 1, 1) := by decide +kernel
theorem dX8_solve_138 : decode cX8_solve 138 = .ok (.ireturn, 1) := by decide +kernel
theorem dX8_notes_0 : decode cX8_notes 0 = .ok (.aload_n 0, 1) := by decide +kernel
theorem dX8_notes_1 : decode cX8_notes 1 = .ok (.getfield 276, 3) := by decide +kernel
theorem dX8_notes_4 : decode cX8_notes 4 = .ok (.ireturn, 1) := by decide +kernel
theorem dX8_mark_0 : decode cX8_mark 0 = .ok (.aload_n 0, 1) := by decide +kernel
theorem dX8_mark_1 : decode cX8_mark 1 = .ok (.getfield 271, 3) := by decide +kernel
theorem dX8_mark_4 : decode cX8_mark 4 = .ok (.lreturn, 1) := by decide +kernel
theorem dX8_trail_0 : decode cX8_trail 0 = .ok (.iload_n 1, 1) := by decide +kernel
theorem dX8_trail_1 : decode cX8_trail 1 = .ok (.i2l, 1) := by decide +kernel
theorem dX8_trail_2 : decode cX8_trail 2 = .ok (.lconst 0, 1) := by decide +kernel
theorem dX8_trail_3 : decode cX8_trail 3 = .ok (.ldc2_w 279, 3) := by decide +kernel
theorem dX8_trail_6 : decode cX8_trail 6 = .ok (.invokestatic 84, 3) := by decide +kernel
theorem dX8_trail_9 : decode cX8_trail 9 = .ok (.ifCond .eq 20, 3) := by decide +kernel
theorem dX8_trail_12 : decode cX8_trail 12 = .ok (.iload_n 1, 1) := by decide +kernel
theorem dX8_trail_13 : decode cX8_trail 13 = .ok (.aload_n 0, 1) := by decide +kernel
theorem dX8_trail_14 : decode cX8_trail 14 = .ok (.getfield 276, 3) := by decide +kernel
theorem dX8_trail_17 : decode cX8_trail 17 = .ok (.if_icmp .ge 12, 3) := by decide +kernel
theorem dX8_trail_20 : decode cX8_trail 20 = .ok (.aload_n 0, 1) := by decide +kernel
theorem dX8_trail_21 : decode cX8_trail 21 = .ok (.getfield 26, 3) := by decide +kernel
theorem dX8_trail_24 : decode cX8_trail 24 = .ok (.iload_n 1, 1) := by decide +kernel
theorem dX8_trail_25 : decode cX8_trail 25 = .ok (.iaload, 1) := by decide +kernel
theorem dX8_trail_26 : decode cX8_trail 26 = .ok (.goto 5, 3) := by decide +kernel
theorem dX8_trail_29 : decode cX8_trail 29 = .ok (.bipush (-12), 2) := by decide +kernel
theorem dX8_trail_31 : decode cX8_trail 31 = .ok (.ireturn, 1) := by decide +kernel
theorem dX8_least_0 : decode cX8_least 0 = .ok (.iload_n 1, 1) := by decide +kernel
theorem dX8_least_1 : decode cX8_least 1 = .ok (.invokestatic 193, 3) := by decide +kernel
theorem dX8_least_4 : decode cX8_least 4 = .ok (.ifCond .ne 11, 3) := by decide +kernel
theorem dX8_least_7 : decode cX8_least 7 = .ok (.bipush (-2), 2) := by decide +kernel
theorem dX8_least_9 : decode cX8_least 9 = .ok (.invokestatic 200, 3) := by decide +kernel
theorem dX8_least_12 : decode cX8_least 12 = .ok (.goto 31, 3) := by decide +kernel
theorem dX8_least_15 : decode cX8_least 15 = .ok (.aload_n 0, 1) := by decide +kernel
theorem dX8_least_16 : decode cX8_least 16 = .ok (.getfield 265, 3) := by decide +kernel
theorem dX8_least_19 : decode cX8_least 19 = .ok (.lconst 0, 1) := by decide +kernel
theorem dX8_least_20 : decode cX8_least 20 = .ok (.lcmp, 1) := by decide +kernel
theorem dX8_least_21 : decode cX8_least 21 = .ok (.ifCond .ne 10, 3) := by decide +kernel
theorem dX8_least_24 : decode cX8_least 24 = .ok (.iconst (-1), 1) := by decide +kernel
theorem dX8_least_25 : decode cX8_least 25 = .ok (.invokestatic 200, 3) := by decide +kernel
theorem dX8_least_28 : decode cX8_least 28 = .ok (.goto 15, 3) := by decide +kernel
theorem dX8_least_31 : decode cX8_least 31 = .ok (.aload_n 0, 1) := by decide +kernel
theorem dX8_least_32 : decode cX8_least 32 = .ok (.getfield 268, 3) := by decide +kernel
theorem dX8_least_35 : decode cX8_least 35 = .ok (.aload_n 0, 1) := by decide +kernel
theorem dX8_least_36 : decode cX8_least 36 = .ok (.getfield 265, 3) := by decide +kernel
theorem dX8_least_39 : decode cX8_least 39 = .ok (.iload_n 1, 1) := by decide +kernel
theorem dX8_least_40 : decode cX8_least 40 = .ok (.invokestatic 203, 3) := by decide +kernel
theorem dX8_least_43 : decode cX8_least 43 = .ok (.lreturn, 1) := by decide +kernel
theorem dX8_isSheet_0 : decode cX8_isSheet 0 = .ok (.iload_n 0, 1) := by decide +kernel
theorem dX8_isSheet_1 : decode cX8_isSheet 1 = .ok (.i2l, 1) := by decide +kernel
theorem dX8_isSheet_2 : decode cX8_isSheet 2 = .ok (.lconst 0, 1) := by decide +kernel
theorem dX8_isSheet_3 : decode cX8_isSheet 3 = .ok (.ldc2_w 91, 3) := by decide +kernel
theorem dX8_isSheet_6 : decode cX8_isSheet 6 = .ok (.invokestatic 84, 3) := by decide +kernel
theorem dX8_isSheet_9 : decode cX8_isSheet 9 = .ok (.ireturn, 1) := by decide +kernel
theorem dX8_becomesRow_0 : decode cX8_becomesRow 0 = .ok (.aload_n 0, 1) := by decide +kernel
theorem dX8_becomesRow_1 : decode cX8_becomesRow 1 = .ok (.getfield 60, 3) := by decide +kernel
theorem dX8_becomesRow_4 : decode cX8_becomesRow 4 = .ok (.iload_n 1, 1) := by decide +kernel
theorem dX8_becomesRow_5 : decode cX8_becomesRow 5 = .ok (.iload_n 2, 1) := by decide +kernel
theorem dX8_becomesRow_6 : decode cX8_becomesRow 6 = .ok (.iastore, 1) := by decide +kernel
theorem dX8_becomesRow_7 : decode cX8_becomesRow 7 = .ok (.aload_n 0, 1) := by decide +kernel
theorem dX8_becomesRow_8 : decode cX8_becomesRow 8 = .ok (.getfield 63, 3) := by decide +kernel
theorem dX8_becomesRow_11 : decode cX8_becomesRow 11 = .ok (.iload_n 1, 1) := by decide +kernel
theorem dX8_becomesRow_12 : decode cX8_becomesRow 12 = .ok (.iload_n 2, 1) := by decide +kernel
theorem dX8_becomesRow_13 : decode cX8_becomesRow 13 = .ok (.ifCond .ge 7, 3) := by decide +kernel
theorem dX8_becomesRow_16 : decode cX8_becomesRow 16 = .ok (.iconst 0, 1) := by decide +kernel
theorem dX8_becomesRow_17 : decode cX8_becomesRow 17 = .ok (.goto 4, 3) := by decide +kernel
theorem dX8_becomesRow_20 : decode cX8_becomesRow 20 = .ok (.iload_n 3, 1) := by decide +kernel
theorem dX8_becomesRow_21 : decode cX8_becomesRow 21 = .ok (.iastore, 1) := by decide +kernel
theorem dX8_becomesRow_22 : decode cX8_becomesRow 22 = .ok (.iconst 0, 1) := by decide +kernel
theorem dX8_becomesRow_23 : decode cX8_becomesRow 23 = .ok (.istore 4, 2) := by decide +kernel
theorem dX8_becomesRow_25 : decode cX8_becomesRow 25 = .ok (.iload 4, 2) := by decide +kernel
theorem dX8_becomesRow_27 : decode cX8_becomesRow 27 = .ok (.bipush 12, 2) := by decide +kernel
theorem dX8_becomesRow_29 : decode cX8_becomesRow 29 = .ok (.if_icmp .ge 22, 3) := by decide +kernel
theorem dX8_becomesRow_32 : decode cX8_becomesRow 32 = .ok (.aload_n 0, 1) := by decide +kernel
theorem dX8_becomesRow_33 : decode cX8_becomesRow 33 = .ok (.getfield 66, 3) := by decide +kernel
theorem dX8_becomesRow_36 : decode cX8_becomesRow 36 = .ok (.bipush 12, 2) := by decide +kernel
theorem dX8_becomesRow_38 : decode cX8_becomesRow 38 = .ok (.iload_n 1, 1) := by decide +kernel
theorem dX8_becomesRow_39 : decode cX8_becomesRow 39 = .ok (.imul, 1) := by decide +kernel
theorem dX8_becomesRow_40 : decode cX8_becomesRow 40 = .ok (.iload 4, 2) := by decide +kernel
theorem dX8_becomesRow_42 : decode cX8_becomesRow 42 = .ok (.iadd, 1) := by decide +kernel
theorem dX8_becomesRow_43 : decode cX8_becomesRow 43 = .ok (.lconst 0, 1) := by decide +kernel
theorem dX8_becomesRow_44 : decode cX8_becomesRow 44 = .ok (.lastore, 1) := by decide +kernel
theorem dX8_becomesRow_45 : decode cX8_becomesRow 45 = .ok (.iinc 4 1, 3) := by decide +kernel
theorem dX8_becomesRow_48 : decode cX8_becomesRow 48 = .ok (.goto (-23), 3) := by decide +kernel
theorem dX8_becomesRow_51 : decode cX8_becomesRow 51 = .ok (.return_, 1) := by decide +kernel
theorem dX8_sheet_0 : decode cX8_sheet 0 = .ok (.iload_n 1, 1) := by decide +kernel
theorem dX8_sheet_1 : decode cX8_sheet 1 = .ok (.invokestatic 251, 3) := by decide +kernel
theorem dX8_sheet_4 : decode cX8_sheet 4 = .ok (.ifCond .eq 25, 3) := by decide +kernel
theorem dX8_sheet_7 : decode cX8_sheet 7 = .ok (.iload_n 2, 1) := by decide +kernel
theorem dX8_sheet_8 : decode cX8_sheet 8 = .ok (.i2l, 1) := by decide +kernel
theorem dX8_sheet_9 : decode cX8_sheet 9 = .ok (.ldc2_w 281, 3) := by decide +kernel
theorem dX8_sheet_12 : decode cX8_sheet 12 = .ok (.lconst 1, 1) := by decide +kernel
theorem dX8_sheet_13 : decode cX8_sheet 13 = .ok (.invokestatic 84, 3) := by decide +kernel
theorem dX8_sheet_16 : decode cX8_sheet 16 = .ok (.ifCond .eq 13, 3) := by decide +kernel
theorem dX8_sheet_19 : decode cX8_sheet 19 = .ok (.iload_n 2, 1) := by decide +kernel
theorem dX8_sheet_20 : decode cX8_sheet 20 = .ok (.ifCond .lt 12, 3) := by decide +kernel
theorem dX8_sheet_23 : decode cX8_sheet 23 = .ok (.iload_n 3, 1) := by decide +kernel
theorem dX8_sheet_24 : decode cX8_sheet 24 = .ok (.bipush 12, 2) := by decide +kernel
theorem dX8_sheet_26 : decode cX8_sheet 26 = .ok (.if_icmp .le 6, 3) := by decide +kernel
theorem dX8_sheet_29 : decode cX8_sheet 29 = .ok (.bipush (-2), 2) := by decide +kernel
theorem dX8_sheet_31 : decode cX8_sheet 31 = .ok (.ireturn, 1) := by decide +kernel
theorem dX8_sheet_32 : decode cX8_sheet 32 = .ok (.iload_n 2, 1) := by decide +kernel
theorem dX8_sheet_33 : decode cX8_sheet 33 = .ok (.ifCond .lt 10, 3) := by decide +kernel
theorem dX8_sheet_36 : decode cX8_sheet 36 = .ok (.iload_n 3, 1) := by decide +kernel
theorem dX8_sheet_37 : decode cX8_sheet 37 = .ok (.ifCond .ge 6, 3) := by decide +kernel
theorem dX8_sheet_40 : decode cX8_sheet 40 = .ok (.bipush (-14), 2) := by decide +kernel
theorem dX8_sheet_42 : decode cX8_sheet 42 = .ok (.ireturn, 1) := by decide +kernel
theorem dX8_sheet_43 : decode cX8_sheet 43 = .ok (.aload_n 0, 1) := by decide +kernel
theorem dX8_sheet_44 : decode cX8_sheet 44 = .ok (.iload_n 1, 1) := by decide +kernel
theorem dX8_sheet_45 : decode cX8_sheet 45 = .ok (.iload_n 2, 1) := by decide +kernel
theorem dX8_sheet_46 : decode cX8_sheet 46 = .ok (.iload_n 3, 1) := by decide +kernel
theorem dX8_sheet_47 : decode cX8_sheet 47 = .ok (.invokevirtual 254, 3) := by decide +kernel
theorem dX8_sheet_50 : decode cX8_sheet 50 = .ok (.iconst 1, 1) := by decide +kernel
theorem dX8_sheet_51 : decode cX8_sheet 51 = .ok (.ireturn, 1) := by decide +kernel
theorem dX8_wrong_0 : decode cX8_wrong 0 = .ok (.iload_n 1, 1) := by decide +kernel
theorem dX8_wrong_1 : decode cX8_wrong 1 = .ok (.invokestatic 251, 3) := by decide +kernel
theorem dX8_wrong_4 : decode cX8_wrong 4 = .ok (.ifCond .ne 8, 3) := by decide +kernel
theorem dX8_wrong_7 : decode cX8_wrong 7 = .ok (.bipush (-2), 2) := by decide +kernel
theorem dX8_wrong_9 : decode cX8_wrong 9 = .ok (.goto 41, 3) := by decide +kernel
theorem dX8_wrong_12 : decode cX8_wrong 12 = .ok (.aload_n 0, 1) := by decide +kernel
theorem dX8_wrong_13 : decode cX8_wrong 13 = .ok (.getfield 60, 3) := by decide +kernel
theorem dX8_wrong_16 : decode cX8_wrong 16 = .ok (.iload_n 1, 1) := by decide +kernel
theorem dX8_wrong_17 : decode cX8_wrong 17 = .ok (.iaload, 1) := by decide +kernel
theorem dX8_wrong_18 : decode cX8_wrong 18 = .ok (.ifCond .ge 8, 3) := by decide +kernel
theorem dX8_wrong_21 : decode cX8_wrong 21 = .ok (.bipush (-11), 2) := by decide +kernel
theorem dX8_wrong_23 : decode cX8_wrong 23 = .ok (.goto 27, 3) := by decide +kernel
theorem dX8_wrong_26 : decode cX8_wrong 26 = .ok (.iload_n 2, 1) := by decide +kernel
theorem dX8_wrong_27 : decode cX8_wrong 27 = .ok (.i2l, 1) := by decide +kernel
theorem dX8_wrong_28 : decode cX8_wrong 28 = .ok (.lconst 0, 1) := by decide +kernel
theorem dX8_wrong_29 : decode cX8_wrong 29 = .ok (.aload_n 0, 1) := by decide +kernel
theorem dX8_wrong_30 : decode cX8_wrong 30 = .ok (.getfield 63, 3) := by decide +kernel
theorem dX8_wrong_33 : decode cX8_wrong 33 = .ok (.iload_n 1, 1) := by decide +kernel
theorem dX8_wrong_34 : decode cX8_wrong 34 = .ok (.iaload, 1) := by decide +kernel
theorem dX8_wrong_35 : decode cX8_wrong 35 = .ok (.iconst 1, 1) := by decide +kernel
theorem dX8_wrong_36 : decode cX8_wrong 36 = .ok (.isub, 1) := by decide +kernel
theorem dX8_wrong_37 : decode cX8_wrong 37 = .ok (.i2l, 1) := by decide +kernel
theorem dX8_wrong_38 : decode cX8_wrong 38 = .ok (.invokestatic 84, 3) := by decide +kernel
theorem dX8_wrong_41 : decode cX8_wrong 41 = .ok (.ifCond .eq 7, 3) := by decide +kernel
theorem dX8_wrong_44 : decode cX8_wrong 44 = .ok (.iconst 0, 1) := by decide +kernel
theorem dX8_wrong_45 : decode cX8_wrong 45 = .ok (.goto 5, 3) := by decide +kernel
theorem dX8_wrong_48 : decode cX8_wrong 48 = .ok (.bipush (-12), 2) := by decide +kernel
theorem dX8_wrong_50 : decode cX8_wrong 50 = .ok (.ireturn, 1) := by decide +kernel
theorem dX8_cell_0 : decode cX8_cell 0 = .ok (.aload_n 0, 1) := by decide +kernel
theorem dX8_cell_1 : decode cX8_cell 1 = .ok (.iload_n 1, 1) := by decide +kernel
theorem dX8_cell_2 : decode cX8_cell 2 = .ok (.iload_n 2, 1) := by decide +kernel
theorem dX8_cell_3 : decode cX8_cell 3 = .ok (.invokevirtual 283, 3) := by decide +kernel
theorem dX8_cell_6 : decode cX8_cell 6 = .ok (.istore 5, 2) := by decide +kernel
theorem dX8_cell_8 : decode cX8_cell 8 = .ok (.iload 5, 2) := by decide +kernel
theorem dX8_cell_10 : decode cX8_cell 10 = .ok (.ifCond .eq 6, 3) := by decide +kernel
theorem dX8_cell_13 : decode cX8_cell 13 = .ok (.iload 5, 2) := by decide +kernel
theorem dX8_cell_15 : decode cX8_cell 15 = .ok (.ireturn, 1) := by decide +kernel
theorem dX8_cell_16 : decode cX8_cell 16 = .ok (.aload_n 0, 1) := by decide +kernel
theorem dX8_cell_17 : decode cX8_cell 17 = .ok (.getfield 60, 3) := by decide +kernel
theorem dX8_cell_20 : decode cX8_cell 20 = .ok (.iload_n 1, 1) := by decide +kernel
theorem dX8_cell_21 : decode cX8_cell 21 = .ok (.iaload, 1) := by decide +kernel
theorem dX8_cell_22 : decode cX8_cell 22 = .ok (.ifCond .ne 14, 3) := by decide +kernel
theorem dX8_cell_25 : decode cX8_cell 25 = .ok (.lload_n 3, 1) := by decide +kernel
theorem dX8_cell_26 : decode cX8_cell 26 = .ok (.lload_n 3, 1) := by decide +kernel
theorem dX8_cell_27 : decode cX8_cell 27 = .ok (.l2i, 1) := by decide +kernel
theorem dX8_cell_28 : decode cX8_cell 28 = .ok (.i2l, 1) := by decide +kernel
theorem dX8_cell_29 : decode cX8_cell 29 = .ok (.lcmp, 1) := by decide +kernel
theorem dX8_cell_30 : decode cX8_cell 30 = .ok (.ifCond .eq 6, 3) := by decide +kernel
theorem dX8_cell_33 : decode cX8_cell 33 = .ok (.bipush (-5), 2) := by decide +kernel
theorem dX8_cell_35 : decode cX8_cell 35 = .ok (.ireturn, 1) := by decide +kernel
theorem dX8_cell_36 : decode cX8_cell 36 = .ok (.aload_n 0, 1) := by decide +kernel
theorem dX8_cell_37 : decode cX8_cell 37 = .ok (.getfield 66, 3) := by decide +kernel
theorem dX8_cell_40 : decode cX8_cell 40 = .ok (.bipush 12, 2) := by decide +kernel
theorem dX8_cell_42 : decode cX8_cell 42 = .ok (.iload_n 1, 1) := by decide +kernel
theorem dX8_cell_43 : decode cX8_cell 43 = .ok (.imul, 1) := by decide +kernel
theorem dX8_cell_44 : decode cX8_cell 44 = .ok (.iload_n 2, 1) := by decide +kernel
theorem dX8_cell_45 : decode cX8_cell 45 = .ok (.iadd, 1) := by decide +kernel
theorem dX8_cell_46 : decode cX8_cell 46 = .ok (.lload_n 3, 1) := by decide +kernel
theorem dX8_cell_47 : decode cX8_cell 47 = .ok (.lastore, 1) := by decide +kernel
theorem dX8_cell_48 : decode cX8_cell 48 = .ok (.iconst 1, 1) := by decide +kernel
theorem dX8_cell_49 : decode cX8_cell 49 = .ok (.ireturn, 1) := by decide +kernel
theorem dX8_read_0 : decode cX8_read 0 = .ok (.aload_n 0, 1) := by decide +kernel
theorem dX8_read_1 : decode cX8_read 1 = .ok (.iload_n 1, 1) := by decide +kernel
theorem dX8_read_2 : decode cX8_read 2 = .ok (.iload_n 2, 1) := by decide +kernel
theorem dX8_read_3 : decode cX8_read 3 = .ok (.invokevirtual 283, 3) := by decide +kernel
theorem dX8_read_6 : decode cX8_read 6 = .ok (.istore_n 3, 1) := by decide +kernel
theorem dX8_read_7 : decode cX8_read 7 = .ok (.iload_n 3, 1) := by decide +kernel
theorem dX8_read_8 : decode cX8_read 8 = .ok (.ifCond .eq 10, 3) := by decide +kernel
theorem dX8_read_11 : decode cX8_read 11 = .ok (.iload_n 3, 1) := by decide +kernel
theorem dX8_read_12 : decode cX8_read 12 = .ok (.invokestatic 200, 3) := by decide +kernel
theorem dX8_read_15 : decode cX8_read 15 = .ok (.goto 14, 3) := by decide +kernel
theorem dX8_read_18 : decode cX8_read 18 = .ok (.aload_n 0, 1) := by decide +kernel
theorem dX8_read_19 : decode cX8_read 19 = .ok (.getfield 66, 3) := by decide +kernel
theorem dX8_read_22 : decode cX8_read 22 = .ok (.bipush 12, 2) := by decide +kernel
theorem dX8_read_24 : decode cX8_read 24 = .ok (.iload_n 1, 1) := by decide +kernel
theorem dX8_read_25 : decode cX8_read 25 = .ok (.imul, 1) := by decide +kernel
theorem dX8_read_26 : decode cX8_read 26 = .ok (.iload_n 2, 1) := by decide +kernel
theorem dX8_read_27 : decode cX8_read 27 = .ok (.iadd, 1) := by decide +kernel
theorem dX8_read_28 : decode cX8_read 28 = .ok (.laload, 1) := by decide +kernel
theorem dX8_read_29 : decode cX8_read 29 = .ok (.lreturn, 1) := by decide +kernel
theorem dX8_copy_0 : decode cX8_copy 0 = .ok (.iload_n 1, 1) := by decide +kernel
theorem dX8_copy_1 : decode cX8_copy 1 = .ok (.invokestatic 251, 3) := by decide +kernel
theorem dX8_copy_4 : decode cX8_copy 4 = .ok (.ifCond .eq 10, 3) := by decide +kernel
theorem dX8_copy_7 : decode cX8_copy 7 = .ok (.iload_n 3, 1) := by decide +kernel
theorem dX8_copy_8 : decode cX8_copy 8 = .ok (.invokestatic 251, 3) := by decide +kernel
theorem dX8_copy_11 : decode cX8_copy 11 = .ok (.ifCond .ne 6, 3) := by decide +kernel
theorem dX8_copy_14 : decode cX8_copy 14 = .ok (.bipush (-2), 2) := by decide +kernel
theorem dX8_copy_16 : decode cX8_copy 16 = .ok (.ireturn, 1) := by decide +kernel
theorem dX8_copy_17 : decode cX8_copy 17 = .ok (.aload_n 0, 1) := by decide +kernel
theorem dX8_copy_18 : decode cX8_copy 18 = .ok (.getfield 60, 3) := by decide +kernel
theorem dX8_copy_21 : decode cX8_copy 21 = .ok (.iload_n 1, 1) := by decide +kernel
theorem dX8_copy_22 : decode cX8_copy 22 = .ok (.iaload, 1) := by decide +kernel
theorem dX8_copy_23 : decode cX8_copy 23 = .ok (.ifCond .lt 12, 3) := by decide +kernel
theorem dX8_copy_26 : decode cX8_copy 26 = .ok (.aload_n 0, 1) := by decide +kernel
theorem dX8_copy_27 : decode cX8_copy 27 = .ok (.getfield 60, 3) := by decide +kernel
theorem dX8_copy_30 : decode cX8_copy 30 = .ok (.iload_n 3, 1) := by decide +kernel
theorem dX8_copy_31 : decode cX8_copy 31 = .ok (.iaload, 1) := by decide +kernel
theorem dX8_copy_32 : decode cX8_copy 32 = .ok (.ifCond .ge 6, 3) := by decide +kernel
theorem dX8_copy_35 : decode cX8_copy 35 = .ok (.bipush (-11), 2) := by decide +kernel
theorem dX8_copy_37 : decode cX8_copy 37 = .ok (.ireturn, 1) := by decide +kernel
theorem dX8_copy_38 : decode cX8_copy 38 = .ok (.aload_n 0, 1) := by decide +kernel
theorem dX8_copy_39 : decode cX8_copy 39 = .ok (.getfield 60, 3) := by decide +kernel
theorem dX8_copy_42 : decode cX8_copy 42 = .ok (.iload_n 1, 1) := by decide +kernel
theorem dX8_copy_43 : decode cX8_copy 43 = .ok (.iaload, 1) := by decide +kernel
theorem dX8_copy_44 : decode cX8_copy 44 = .ok (.aload_n 0, 1) := by decide +kernel
theorem dX8_copy_45 : decode cX8_copy 45 = .ok (.getfield 60, 3) := by decide +kernel
theorem dX8_copy_48 : decode cX8_copy 48 = .ok (.iload_n 3, 1) := by decide +kernel
theorem dX8_copy_49 : decode cX8_copy 49 = .ok (.iaload, 1) := by decide +kernel
theorem dX8_copy_50 : decode cX8_copy 50 = .ok (.if_icmp .eq 6, 3) := by decide +kernel
theorem dX8_copy_53 : decode cX8_copy 53 = .ok (.bipush (-13), 2) := by decide +kernel
theorem dX8_copy_55 : decode cX8_copy 55 = .ok (.ireturn, 1) := by decide +kernel
theorem dX8_copy_56 : decode cX8_copy 56 = .ok (.iload 5, 2) := by decide +kernel
theorem dX8_copy_58 : decode cX8_copy 58 = .ok (.ifCond .lt 39, 3) := by decide +kernel
theorem dX8_copy_61 : decode cX8_copy 61 = .ok (.iload_n 2, 1) := by decide +kernel
theorem dX8_copy_62 : decode cX8_copy 62 = .ok (.ifCond .lt 35, 3) := by decide +kernel
theorem dX8_copy_65 : decode cX8_copy 65 = .ok (.iload 4, 2) := by decide +kernel
theorem dX8_copy_67 : decode cX8_copy 67 = .ok (.ifCond .lt 30, 3) := by decide +kernel
theorem dX8_copy_70 : decode cX8_copy 70 = .ok (.iload 5, 2) := by decide +kernel
theorem dX8_copy_72 : decode cX8_copy 72 = .ok (.aload_n 0, 1) := by decide +kernel
theorem dX8_copy_73 : decode cX8_copy 73 = .ok (.getfield 63, 3) := by decide +kernel
theorem dX8_copy_76 : decode cX8_copy 76 = .ok (.iload_n 1, 1) := by decide +kernel
theorem dX8_copy_77 : decode cX8_copy 77 = .ok (.iaload, 1) := by decide +kernel
theorem dX8_copy_78 : decode cX8_copy 78 = .ok (.iload_n 2, 1) := by decide +kernel
theorem dX8_copy_79 : decode cX8_copy 79 = .ok (.isub, 1) := by decide +kernel
theorem dX8_copy_80 : decode cX8_copy 80 = .ok (.if_icmp .gt 17, 3) := by decide +kernel
theorem dX8_copy_83 : decode cX8_copy 83 = .ok (.iload 5, 2) := by decide +kernel
theorem dX8_copy_85 : decode cX8_copy 85 = .ok (.aload_n 0, 1) := by decide +kernel
theorem dX8_copy_86 : decode cX8_copy 86 = .ok (.getfield 63, 3) := by decide +kernel
theorem dX8_copy_89 : decode cX8_copy 89 = .ok (.iload_n 3, 1) := by decide +kernel
theorem dX8_copy_90 : decode cX8_copy 90 = .ok (.iaload, 1) := by decide +kernel
theorem dX8_copy_91 : decode cX8_copy 91 = .ok (.iload 4, 2) := by decide +kernel
theorem dX8_copy_93 : decode cX8_copy 93 = .ok (.isub, 1) := by decide +kernel
theorem dX8_copy_94 : decode cX8_copy 94 = .ok (.if_icmp .le 6, 3) := by decide +kernel
theorem dX8_copy_97 : decode cX8_copy 97 = .ok (.bipush (-12), 2) := by decide +kernel
theorem dX8_copy_99 : decode cX8_copy 99 = .ok (.ireturn, 1) := by decide +kernel
theorem dX8_copy_100 : decode cX8_copy 100 = .ok (.iconst 0, 1) := by decide +kernel
theorem dX8_copy_101 : decode cX8_copy 101 = .ok (.istore 6, 2) := by decide +kernel
theorem dX8_copy_103 : decode cX8_copy 103 = .ok (.iload 6, 2) := by decide +kernel
theorem dX8_copy_105 : decode cX8_copy 105 = .ok (.iload 5, 2) := by decide +kernel
theorem dX8_copy_107 : decode cX8_copy 107 = .ok (.if_icmp .ge 58, 3) := by decide +kernel
theorem dX8_copy_110 : decode cX8_copy 110 = .ok (.iload_n 2, 1) := by decide +kernel
theorem dX8_copy_111 : decode cX8_copy 111 = .ok (.iload 4, 2) := by decide +kernel
theorem dX8_copy_113 : decode cX8_copy 113 = .ok (.if_icmp .le 8, 3) := by decide +kernel
theorem dX8_copy_116 : decode cX8_copy 116 = .ok (.iload 6, 2) := by decide +kernel
theorem dX8_copy_118 : decode cX8_copy 118 = .ok (.goto 10, 3) := by decide +kernel
theorem dX8_copy_121 : decode cX8_copy 121 = .ok (.iload 5, 2) := by decide +kernel
theorem dX8_copy_123 : decode cX8_copy 123 = .ok (.iconst 1, 1) := by decide +kernel
theorem dX8_copy_124 : decode cX8_copy 124 = .ok (.isub, 1) := by decide +kernel
theorem dX8_copy_125 : decode cX8_copy 125 = .ok (.iload 6, 2) := by decide +kernel
theorem dX8_copy_127 : decode cX8_copy 127 = .ok (.isub, 1) := by decide +kernel
theorem dX8_copy_128 : decode cX8_copy 128 = .ok (.istore 7, 2) := by decide +kernel
theorem dX8_copy_130 : decode cX8_copy 130 = .ok (.aload_n 0, 1) := by decide +kernel
theorem dX8_copy_131 : decode cX8_copy 131 = .ok (.getfield 66, 3) := by decide +kernel
theorem dX8_copy_134 : decode cX8_copy 134 = .ok (.bipush 12, 2) := by decide +kernel
theorem dX8_copy_136 : decode cX8_copy 136 = .ok (.iload_n 3, 1) := by decide +kernel
theorem dX8_copy_137 : decode cX8_copy 137 = .ok (.imul, 1) := by decide +kernel
theorem dX8_copy_138 : decode cX8_copy 138 = .ok (.iload 4, 2) := by decide +kernel
theorem dX8_copy_140 : decode cX8_copy 140 = .ok (.iadd, 1) := by decide +kernel
theorem dX8_copy_141 : decode cX8_copy 141 = .ok (.iload 7, 2) := by decide +kernel
theorem dX8_copy_143 : decode cX8_copy 143 = .ok (.iadd, 1) := by decide +kernel
theorem dX8_copy_144 : decode cX8_copy 144 = .ok (.aload_n 0, 1) := by decide +kernel
theorem dX8_copy_145 : decode cX8_copy 145 = .ok (.getfield 66, 3) := by decide +kernel
theorem dX8_copy_148 : decode cX8_copy 148 = .ok (.bipush 12, 2) := by decide +kernel
theorem dX8_copy_150 : decode cX8_copy 150 = .ok (.iload_n 1, 1) := by decide +kernel
theorem dX8_copy_151 : decode cX8_copy 151 = .ok (.imul, 1) := by decide +kernel
theorem dX8_copy_152 : decode cX8_copy 152 = .ok (.iload_n 2, 1) := by decide +kernel
theorem dX8_copy_153 : decode cX8_copy 153 = .ok (.iadd, 1) := by decide +kernel
theorem dX8_copy_154 : decode cX8_copy 154 = .ok (.iload 7, 2) := by decide +kernel
theorem dX8_copy_156 : decode cX8_copy 156 = .ok (.iadd, 1) := by decide +kernel
theorem dX8_copy_157 : decode cX8_copy 157 = .ok (.laload, 1) := by decide +kernel
theorem dX8_copy_158 : decode cX8_copy 158 = .ok (.lastore, 1) := by decide +kernel
theorem dX8_copy_159 : decode cX8_copy 159 = .ok (.iinc 6 1, 3) := by decide +kernel
theorem dX8_copy_162 : decode cX8_copy 162 = .ok (.goto (-59), 3) := by decide +kernel
theorem dX8_copy_165 : decode cX8_copy 165 = .ok (.iload 5, 2) := by decide +kernel
theorem dX8_copy_167 : decode cX8_copy 167 = .ok (.ireturn, 1) := by decide +kernel
theorem dX8_image_0 : decode cX8_image 0 = .ok (.aload_n 0, 1) := by decide +kernel
theorem dX8_image_1 : decode cX8_image 1 = .ok (.iconst 1, 1) := by decide +kernel
theorem dX8_image_2 : decode cX8_image 2 = .ok (.putfield 286, 3) := by decide +kernel
theorem dX8_image_5 : decode cX8_image 5 = .ok (.aload_n 0, 1) := by decide +kernel
theorem dX8_image_6 : decode cX8_image 6 = .ok (.getfield 23, 3) := by decide +kernel
theorem dX8_image_9 : decode cX8_image 9 = .ok (.iconst 0, 1) := by decide +kernel
theorem dX8_image_10 : decode cX8_image 10 = .ok (.aload_n 0, 1) := by decide +kernel
theorem dX8_image_11 : decode cX8_image 11 = .ok (.getfield 7, 3) := by decide +kernel
theorem dX8_image_14 : decode cX8_image 14 = .ok (.iastore, 1) := by decide +kernel
theorem dX8_image_15 : decode cX8_image 15 = .ok (.aload_n 0, 1) := by decide +kernel
theorem dX8_image_16 : decode cX8_image 16 = .ok (.getfield 23, 3) := by decide +kernel
theorem dX8_image_19 : decode cX8_image 19 = .ok (.iconst 1, 1) := by decide +kernel
theorem dX8_image_20 : decode cX8_image 20 = .ok (.aload_n 0, 1) := by decide +kernel
theorem dX8_image_21 : decode cX8_image 21 = .ok (.getfield 93, 3) := by decide +kernel
theorem dX8_image_24 : decode cX8_image 24 = .ok (.iastore, 1) := by decide +kernel
theorem dX8_image_25 : decode cX8_image 25 = .ok (.aload_n 0, 1) := by decide +kernel
theorem dX8_image_26 : decode cX8_image 26 = .ok (.getfield 23, 3) := by decide +kernel
theorem dX8_image_29 : decode cX8_image 29 = .ok (.iconst 2, 1) := by decide +kernel
theorem dX8_image_30 : decode cX8_image 30 = .ok (.aload_n 0, 1) := by decide +kernel
theorem dX8_image_31 : decode cX8_image 31 = .ok (.getfield 88, 3) := by decide +kernel
theorem dX8_image_34 : decode cX8_image 34 = .ok (.iastore, 1) := by decide +kernel
theorem dX8_image_35 : decode cX8_image 35 = .ok (.iconst 0, 1) := by decide +kernel
theorem dX8_image_36 : decode cX8_image 36 = .ok (.istore_n 1, 1) := by decide +kernel
theorem dX8_image_37 : decode cX8_image 37 = .ok (.iload_n 1, 1) := by decide +kernel
theorem dX8_image_38 : decode cX8_image 38 = .ok (.bipush 9, 2) := by decide +kernel
theorem dX8_image_40 : decode cX8_image 40 = .ok (.if_icmp .ge 23, 3) := by decide +kernel
theorem dX8_image_43 : decode cX8_image 43 = .ok (.aload_n 0, 1) := by decide +kernel
theorem dX8_image_44 : decode cX8_image 44 = .ok (.getfield 23, 3) := by decide +kernel
theorem dX8_image_47 : decode cX8_image 47 = .ok (.iconst 3, 1) := by decide +kernel
theorem dX8_image_48 : decode cX8_image 48 = .ok (.iload_n 1, 1) := by decide +kernel
theorem dX8_image_49 : decode cX8_image 49 = .ok (.iadd, 1) := by decide +kernel
theorem dX8_image_50 : decode cX8_image 50 = .ok (.aload_n 0, 1) := by decide +kernel
theorem dX8_image_51 : decode cX8_image 51 = .ok (.getfield 13, 3) := by decide +kernel
theorem dX8_image_54 : decode cX8_image 54 = .ok (.iload_n 1, 1) := by decide +kernel
theorem dX8_image_55 : decode cX8_image 55 = .ok (.iaload, 1) := by decide +kernel
theorem dX8_image_56 : decode cX8_image 56 = .ok (.iastore, 1) := by decide +kernel
theorem dX8_image_57 : decode cX8_image 57 = .ok (.iinc 1 1, 3) := by decide +kernel
theorem dX8_image_60 : decode cX8_image 60 = .ok (.goto (-23), 3) := by decide +kernel
theorem dX8_image_63 : decode cX8_image 63 = .ok (.iconst 0, 1) := by decide +kernel
theorem dX8_image_64 : decode cX8_image 64 = .ok (.istore_n 1, 1) := by decide +kernel
theorem dX8_image_65 : decode cX8_image 65 = .ok (.iload_n 1, 1) := by decide +kernel
theorem dX8_image_66 : decode cX8_image 66 = .ok (.iconst 3, 1) := by decide +kernel
theorem dX8_image_67 : decode cX8_image 67 = .ok (.if_icmp .ge 24, 3) := by decide +kernel
theorem dX8_image_70 : decode cX8_image 70 = .ok (.aload_n 0, 1) := by decide +kernel
theorem dX8_image_71 : decode cX8_image 71 = .ok (.getfield 23, 3) := by decide +kernel
theorem dX8_image_74 : decode cX8_image 74 = .ok (.bipush 12, 2) := by decide +kernel
theorem dX8_image_76 : decode cX8_image 76 = .ok (.iload_n 1, 1) := by decide +kernel
theorem dX8_image_77 : decode cX8_image 77 = .ok (.iadd, 1) := by decide +kernel
theorem dX8_image_78 : decode cX8_image 78 = .ok (.aload_n 0, 1) := by decide +kernel
theorem dX8_image_79 : decode cX8_image 79 = .ok (.getfield 17, 3) := by decide +kernel
theorem dX8_image_82 : decode cX8_image 82 = .ok (.iload_n 1, 1) := by decide +kernel
theorem dX8_image_83 : decode cX8_image 83 = .ok (.iaload, 1) := by decide +kernel
theorem dX8_image_84 : decode cX8_image 84 = .ok (.iastore, 1) := by decide +kernel
theorem dX8_image_85 : decode cX8_image 85 = .ok (.iinc 1 1, 3) := by decide +kernel
theorem dX8_image_88 : decode cX8_image 88 = .ok (.goto (-23), 3) := by decide +kernel
theorem dX8_image_91 : decode cX8_image 91 = .ok (.iconst 0, 1) := by decide +kernel
theorem dX8_image_92 : decode cX8_image 92 = .ok (.istore_n 1, 1) := by decide +kernel
theorem dX8_image_93 : decode cX8_image 93 = .ok (.iload_n 1, 1) := by decide +kernel
theorem dX8_image_94 : decode cX8_image 94 = .ok (.bipush 36, 2) := by decide +kernel
theorem dX8_image_96 : decode cX8_image 96 = .ok (.if_icmp .ge 24, 3) := by decide +kernel
theorem dX8_image_99 : decode cX8_image 99 = .ok (.aload_n 0, 1) := by decide +kernel
theorem dX8_image_100 : decode cX8_image 100 = .ok (.getfield 23, 3) := by decide +kernel
theorem dX8_image_103 : decode cX8_image 103 = .ok (.bipush 15, 2) := by decide +kernel
theorem dX8_image_105 : decode cX8_image 105 = .ok (.iload_n 1, 1) := by decide +kernel
theorem dX8_image_106 : decode cX8_image 106 = .ok (.iadd, 1) := by decide +kernel
theorem dX8_image_107 : decode cX8_image 107 = .ok (.aload_n 0, 1) := by decide +kernel
theorem dX8_image_108 : decode cX8_image 108 = .ok (.getfield 20, 3) := by decide +kernel
theorem dX8_image_111 : decode cX8_image 111 = .ok (.iload_n 1, 1) := by decide +kernel
theorem dX8_image_112 : decode cX8_image 112 = .ok (.iaload, 1) := by decide +kernel
theorem dX8_image_113 : decode cX8_image 113 = .ok (.iastore, 1) := by decide +kernel
theorem dX8_image_114 : decode cX8_image 114 = .ok (.iinc 1 1, 3) := by decide +kernel
theorem dX8_image_117 : decode cX8_image 117 = .ok (.goto (-24), 3) := by decide +kernel
theorem dX8_image_120 : decode cX8_image 120 = .ok (.aload_n 0, 1) := by decide +kernel
theorem dX8_image_121 : decode cX8_image 121 = .ok (.getfield 88, 3) := by decide +kernel
theorem dX8_image_124 : decode cX8_image 124 = .ok (.ireturn, 1) := by decide +kernel
theorem dX8_back_0 : decode cX8_back 0 = .ok (.aload_n 0, 1) := by decide +kernel
theorem dX8_back_1 : decode cX8_back 1 = .ok (.getfield 286, 3) := by decide +kernel
theorem dX8_back_4 : decode cX8_back 4 = .ok (.ifCond .ne 6, 3) := by decide +kernel
theorem dX8_back_7 : decode cX8_back 7 = .ok (.bipush (-3), 2) := by decide +kernel
theorem dX8_back_9 : decode cX8_back 9 = .ok (.ireturn, 1) := by decide +kernel
theorem dX8_back_10 : decode cX8_back 10 = .ok (.aload_n 0, 1) := by decide +kernel
theorem dX8_back_11 : decode cX8_back 11 = .ok (.aload_n 0, 1) := by decide +kernel
theorem dX8_back_12 : decode cX8_back 12 = .ok (.getfield 23, 3) := by decide +kernel
theorem dX8_back_15 : decode cX8_back 15 = .ok (.iconst 0, 1) := by decide +kernel
theorem dX8_back_16 : decode cX8_back 16 = .ok (.iaload, 1) := by decide +kernel
theorem dX8_back_17 : decode cX8_back 17 = .ok (.putfield 7, 3) := by decide +kernel
theorem dX8_back_20 : decode cX8_back 20 = .ok (.aload_n 0, 1) := by decide +kernel
theorem dX8_back_21 : decode cX8_back 21 = .ok (.aload_n 0, 1) := by decide +kernel
theorem dX8_back_22 : decode cX8_back 22 = .ok (.getfield 23, 3) := by decide +kernel
theorem dX8_back_25 : decode cX8_back 25 = .ok (.iconst 1, 1) := by decide +kernel
theorem dX8_back_26 : decode cX8_back 26 = .ok (.iaload, 1) := by decide +kernel
theorem dX8_back_27 : decode cX8_back 27 = .ok (.putfield 93, 3) := by decide +kernel
theorem dX8_back_30 : decode cX8_back 30 = .ok (.aload_n 0, 1) := by decide +kernel
theorem dX8_back_31 : decode cX8_back 31 = .ok (.aload_n 0, 1) := by decide +kernel
theorem dX8_back_32 : decode cX8_back 32 = .ok (.getfield 23, 3) := by decide +kernel
theorem dX8_back_35 : decode cX8_back 35 = .ok (.iconst 2, 1) := by decide +kernel
theorem dX8_back_36 : decode cX8_back 36 = .ok (.iaload, 1) := by decide +kernel
theorem dX8_back_37 : decode cX8_back 37 = .ok (.putfield 88, 3) := by decide +kernel
theorem dX8_back_40 : decode cX8_back 40 = .ok (.iconst 0, 1) := by decide +kernel
theorem dX8_back_41 : decode cX8_back 41 = .ok (.istore_n 1, 1) := by decide +kernel
theorem dX8_back_42 : decode cX8_back 42 = .ok (.iload_n 1, 1) := by decide +kernel
theorem dX8_back_43 : decode cX8_back 43 = .ok (.bipush 9, 2) := by decide +kernel
theorem dX8_back_45 : decode cX8_back 45 = .ok (.if_icmp .ge 23, 3) := by decide +kernel
theorem dX8_back_48 : decode cX8_back 48 = .ok (.aload_n 0, 1) := by decide +kernel
theorem dX8_back_49 : decode cX8_back 49 = .ok (.getfield 13, 3) := by decide +kernel
theorem dX8_back_52 : decode cX8_back 52 = .ok (.iload_n 1, 1) := by decide +kernel
theorem dX8_back_53 : decode cX8_back 53 = .ok (.aload_n 0, 1) := by decide +kernel
theorem dX8_back_54 : decode cX8_back 54 = .ok (.getfield 23, 3) := by decide +kernel
theorem dX8_back_57 : decode cX8_back 57 = .ok (.iconst 3, 1) := by decide +kernel
theorem dX8_back_58 : decode cX8_back 58 = .ok (.iload_n 1, 1) := by decide +kernel
theorem dX8_back_59 : decode cX8_back 59 = .ok (.iadd, 1) := by decide +kernel
theorem dX8_back_60 : decode cX8_back 60 = .ok (.iaload, 1) := by decide +kernel
theorem dX8_back_61 : decode cX8_back 61 = .ok (.iastore, 1) := by decide +kernel
theorem dX8_back_62 : decode cX8_back 62 = .ok (.iinc 1 1, 3) := by decide +kernel
theorem dX8_back_65 : decode cX8_back 65 = .ok (.goto (-23), 3) := by decide +kernel
theorem dX8_back_68 : decode cX8_back 68 = .ok (.iconst 0, 1) := by decide +kernel
theorem dX8_back_69 : decode cX8_back 69 = .ok (.istore_n 1, 1) := by decide +kernel
theorem dX8_back_70 : decode cX8_back 70 = .ok (.iload_n 1, 1) := by decide +kernel
theorem dX8_back_71 : decode cX8_back 71 = .ok (.iconst 3, 1) := by decide +kernel
theorem dX8_back_72 : decode cX8_back 72 = .ok (.if_icmp .ge 24, 3) := by decide +kernel
theorem dX8_back_75 : decode cX8_back 75 = .ok (.aload_n 0, 1) := by decide +kernel
theorem dX8_back_76 : decode cX8_back 76 = .ok (.getfield 17, 3) := by decide +kernel
theorem dX8_back_79 : decode cX8_back 79 = .ok (.iload_n 1, 1) := by decide +kernel
theorem dX8_back_80 : decode cX8_back 80 = .ok (.aload_n 0, 1) := by decide +kernel
theorem dX8_back_81 : decode cX8_back 81 = .ok (.getfield 23, 3) := by decide +kernel
theorem dX8_back_84 : decode cX8_back 84 = .ok (.bipush 12, 2) := by decide +kernel
theorem dX8_back_86 : decode cX8_back 86 = .ok (.iload_n 1, 1) := by decide +kernel
theorem dX8_back_87 : decode cX8_back 87 = .ok (.iadd, 1) := by decide +kernel
theorem dX8_back_88 : decode cX8_back 88 = .ok (.iaload, 1) := by decide +kernel
theorem dX8_back_89 : decode cX8_back 89 = .ok (.iastore, 1) := by decide +kernel
theorem dX8_back_90 : decode cX8_back 90 = .ok (.iinc 1 1, 3) := by decide +kernel
theorem dX8_back_93 : decode cX8_back 93 = .ok (.goto (-23), 3) := by decide +kernel
theorem dX8_back_96 : decode cX8_back 96 = .ok (.iconst 0, 1) := by decide +kernel
theorem dX8_back_97 : decode cX8_back 97 = .ok (.istore_n 1, 1) := by decide +kernel
theorem dX8_back_98 : decode cX8_back 98 = .ok (.iload_n 1, 1) := by decide +kernel
theorem dX8_back_99 : decode cX8_back 99 = .ok (.bipush 36, 2) := by decide +kernel
theorem dX8_back_101 : decode cX8_back 101 = .ok (.if_icmp .ge 24, 3) := by decide +kernel
theorem dX8_back_104 : decode cX8_back 104 = .ok (.aload_n 0, 1) := by decide +kernel
theorem dX8_back_105 : decode cX8_back 105 = .ok (.getfield 20, 3) := by decide +kernel
theorem dX8_back_108 : decode cX8_back 108 = .ok (.iload_n 1, 1) := by decide +kernel
theorem dX8_back_109 : decode cX8_back 109 = .ok (.aload_n 0, 1) := by decide +kernel
theorem dX8_back_110 : decode cX8_back 110 = .ok (.getfield 23, 3) := by decide +kernel
theorem dX8_back_113 : decode cX8_back 113 = .ok (.bipush 15, 2) := by decide +kernel
theorem dX8_back_115 : decode cX8_back 115 = .ok (.iload_n 1, 1) := by decide +kernel
theorem dX8_back_116 : decode cX8_back 116 = .ok (.iadd, 1) := by decide +kernel
theorem dX8_back_117 : decode cX8_back 117 = .ok (.iaload, 1) := by decide +kernel
theorem dX8_back_118 : decode cX8_back 118 = .ok (.iastore, 1) := by decide +kernel
theorem dX8_back_119 : decode cX8_back 119 = .ok (.iinc 1 1, 3) := by decide +kernel
theorem dX8_back_122 : decode cX8_back 122 = .ok (.goto (-24), 3) := by decide +kernel
theorem dX8_back_125 : decode cX8_back 125 = .ok (.aload_n 0, 1) := by decide +kernel
theorem dX8_back_126 : decode cX8_back 126 = .ok (.getfield 88, 3) := by decide +kernel
theorem dX8_back_129 : decode cX8_back 129 = .ok (.ireturn, 1) := by decide +kernel
theorem dX8_count_0 : decode cX8_count 0 = .ok (.iconst 0, 1) := by decide +kernel
theorem dX8_count_1 : decode cX8_count 1 = .ok (.istore_n 2, 1) := by decide +kernel
theorem dX8_count_2 : decode cX8_count 2 = .ok (.iconst 0, 1) := by decide +kernel
theorem dX8_count_3 : decode cX8_count 3 = .ok (.istore_n 3, 1) := by decide +kernel
theorem dX8_count_4 : decode cX8_count 4 = .ok (.iload_n 3, 1) := by decide +kernel
theorem dX8_count_5 : decode cX8_count 5 = .ok (.aload_n 0, 1) := by decide +kernel
theorem dX8_count_6 : decode cX8_count 6 = .ok (.getfield 88, 3) := by decide +kernel
theorem dX8_count_9 : decode cX8_count 9 = .ok (.if_icmp .ge 25, 3) := by decide +kernel
theorem dX8_count_12 : decode cX8_count 12 = .ok (.iload_n 2, 1) := by decide +kernel
theorem dX8_count_13 : decode cX8_count 13 = .ok (.aload_n 0, 1) := by decide +kernel
theorem dX8_count_14 : decode cX8_count 14 = .ok (.iload_n 3, 1) := by decide +kernel
theorem dX8_count_15 : decode cX8_count 15 = .ok (.invokevirtual 175, 3) := by decide +kernel
theorem dX8_count_18 : decode cX8_count 18 = .ok (.ifCond .eq 7, 3) := by decide +kernel
theorem dX8_count_21 : decode cX8_count 21 = .ok (.iconst 1, 1) := by decide +kernel
theorem dX8_count_22 : decode cX8_count 22 = .ok (.goto 4, 3) := by decide +kernel
theorem dX8_count_25 : decode cX8_count 25 = .ok (.iconst 0, 1) := by decide +kernel
theorem dX8_count_26 : decode cX8_count 26 = .ok (.iadd, 1) := by decide +kernel
theorem dX8_count_27 : decode cX8_count 27 = .ok (.istore_n 2, 1) := by decide +kernel
theorem dX8_count_28 : decode cX8_count 28 = .ok (.iinc 3 1, 3) := by decide +kernel
theorem dX8_count_31 : decode cX8_count 31 = .ok (.goto (-27), 3) := by decide +kernel
theorem dX8_count_34 : decode cX8_count 34 = .ok (.iload_n 1, 1) := by decide +kernel
theorem dX8_count_35 : decode cX8_count 35 = .ok (.ifCond .ne 10, 3) := by decide +kernel
theorem dX8_count_38 : decode cX8_count 38 = .ok (.aload_n 0, 1) := by decide +kernel
theorem dX8_count_39 : decode cX8_count 39 = .ok (.getfield 7, 3) := by decide +kernel
theorem dX8_count_42 : decode cX8_count 42 = .ok (.goto 38, 3) := by decide +kernel
theorem dX8_count_45 : decode cX8_count 45 = .ok (.iload_n 1, 1) := by decide +kernel
theorem dX8_count_46 : decode cX8_count 46 = .ok (.iconst 1, 1) := by decide +kernel
theorem dX8_count_47 : decode cX8_count 47 = .ok (.if_icmp .ne 10, 3) := by decide +kernel
theorem dX8_count_50 : decode cX8_count 50 = .ok (.aload_n 0, 1) := by decide +kernel
theorem dX8_count_51 : decode cX8_count 51 = .ok (.getfield 88, 3) := by decide +kernel
theorem dX8_count_54 : decode cX8_count 54 = .ok (.goto 26, 3) := by decide +kernel
theorem dX8_count_57 : decode cX8_count 57 = .ok (.iload_n 1, 1) := by decide +kernel
theorem dX8_count_58 : decode cX8_count 58 = .ok (.iconst 2, 1) := by decide +kernel
theorem dX8_count_59 : decode cX8_count 59 = .ok (.if_icmp .ne 10, 3) := by decide +kernel
theorem dX8_count_62 : decode cX8_count 62 = .ok (.aload_n 0, 1) := by decide +kernel
theorem dX8_count_63 : decode cX8_count 63 = .ok (.getfield 93, 3) := by decide +kernel
theorem dX8_count_66 : decode cX8_count 66 = .ok (.goto 14, 3) := by decide +kernel
theorem dX8_count_69 : decode cX8_count 69 = .ok (.iload_n 1, 1) := by decide +kernel
theorem dX8_count_70 : decode cX8_count 70 = .ok (.iconst 3, 1) := by decide +kernel
theorem dX8_count_71 : decode cX8_count 71 = .ok (.if_icmp .ne 7, 3) := by decide +kernel
theorem dX8_count_74 : decode cX8_count 74 = .ok (.iload_n 2, 1) := by decide +kernel
theorem dX8_count_75 : decode cX8_count 75 = .ok (.goto 5, 3) := by decide +kernel
theorem dX8_count_78 : decode cX8_count 78 = .ok (.bipush (-2), 2) := by decide +kernel
theorem dX8_count_80 : decode cX8_count 80 = .ok (.ireturn, 1) := by decide +kernel
end
section
theorem dL_law_0 : decode cL_law 0 = .ok (.new 7, 3) := by decide +kernel
theorem dL_law_3 : decode cL_law 3 = .ok (.dup, 1) := by decide +kernel
theorem dL_law_4 : decode cL_law 4 = .ok (.invokespecial 9, 3) := by decide +kernel
theorem dL_law_7 : decode cL_law 7 = .ok (.astore_n 1, 1) := by decide +kernel
theorem dL_law_8 : decode cL_law 8 = .ok (.new 10, 3) := by decide +kernel
theorem dL_law_11 : decode cL_law 11 = .ok (.dup, 1) := by decide +kernel
theorem dL_law_12 : decode cL_law 12 = .ok (.invokespecial 12, 3) := by decide +kernel
theorem dL_law_15 : decode cL_law 15 = .ok (.astore_n 2, 1) := by decide +kernel
theorem dL_law_16 : decode cL_law 16 = .ok (.iconst 0, 1) := by decide +kernel
theorem dL_law_17 : decode cL_law 17 = .ok (.istore_n 3, 1) := by decide +kernel
theorem dL_law_18 : decode cL_law 18 = .ok (.iload_n 3, 1) := by decide +kernel
theorem dL_law_19 : decode cL_law 19 = .ok (.aload_n 0, 1) := by decide +kernel
theorem dL_law_20 : decode cL_law 20 = .ok (.arraylength, 1) := by decide +kernel
theorem dL_law_21 : decode cL_law 21 = .ok (.bipush 6, 2) := by decide +kernel
theorem dL_law_23 : decode cL_law 23 = .ok (.isub, 1) := by decide +kernel
theorem dL_law_24 : decode cL_law 24 = .ok (.if_icmp .gt 1356, 3) := by decide +kernel
theorem dL_law_27 : decode cL_law 27 = .ok (.aload_n 0, 1) := by decide +kernel
theorem dL_law_28 : decode cL_law 28 = .ok (.iload_n 3, 1) := by decide +kernel
theorem dL_law_29 : decode cL_law 29 = .ok (.iaload, 1) := by decide +kernel
theorem dL_law_30 : decode cL_law 30 = .ok (.bipush 63, 2) := by decide +kernel
theorem dL_law_32 : decode cL_law 32 = .ok (.iand, 1) := by decide +kernel
theorem dL_law_33 : decode cL_law 33 = .ok (.tableswitch 1341 0 37 #[167, 190, 233, 266, 289, 332, 375, 418, 441, 474, 497, 510, 533, 577, 611, 655, 699, 722, 745, 758, 781, 804, 828, 892, 946, 969, 992, 1005, 1018, 1032, 1055, 1079, 1122, 1195, 1229, 1292, 1305, 1318], 167) := by decide +kernel
theorem dL_law_200 : decode cL_law 200 = .ok (.aload_n 1, 1) := by decide +kernel
theorem dL_law_201 : decode cL_law 201 = .ok (.aload_n 0, 1) := by decide +kernel
theorem dL_law_202 : decode cL_law 202 = .ok (.iload_n 3, 1) := by decide +kernel
theorem dL_law_203 : decode cL_law 203 = .ok (.iconst 1, 1) := by decide +kernel
theorem dL_law_204 : decode cL_law 204 = .ok (.iadd, 1) := by decide +kernel
theorem dL_law_205 : decode cL_law 205 = .ok (.iaload, 1) := by decide +kernel
theorem dL_law_206 : decode cL_law 206 = .ok (.invokevirtual 13, 3) := by decide +kernel
theorem dL_law_209 : decode cL_law 209 = .ok (.aload_n 2, 1) := by decide +kernel
theorem dL_law_210 : decode cL_law 210 = .ok (.aload_n 0, 1) := by decide +kernel
theorem dL_law_211 : decode cL_law 211 = .ok (.iload_n 3, 1) := by decide +kernel
theorem dL_law_212 : decode cL_law 212 = .ok (.iconst 1, 1) := by decide +kernel
theorem dL_law_213 : decode cL_law 213 = .ok (.iadd, 1) := by decide +kernel
theorem dL_law_214 : decode cL_law 214 = .ok (.iaload, 1) := by decide +kernel
theorem dL_law_215 : decode cL_law 215 = .ok (.invokevirtual 17, 3) := by decide +kernel
theorem dL_law_218 : decode cL_law 218 = .ok (.if_icmp .eq 1156, 3) := by decide +kernel
theorem dL_law_221 : decode cL_law 221 = .ok (.iconst 0, 1) := by decide +kernel
theorem dL_law_222 : decode cL_law 222 = .ok (.ireturn, 1) := by decide +kernel
theorem dL_law_223 : decode cL_law 223 = .ok (.aload_n 1, 1) := by decide +kernel
theorem dL_law_224 : decode cL_law 224 = .ok (.aload_n 0, 1) := by decide +kernel
theorem dL_law_225 : decode cL_law 225 = .ok (.iload_n 3, 1) := by decide +kernel
theorem dL_law_226 : decode cL_law 226 = .ok (.iconst 1, 1) := by decide +kernel
theorem dL_law_227 : decode cL_law 227 = .ok (.iadd, 1) := by decide +kernel
theorem dL_law_228 : decode cL_law 228 = .ok (.iaload, 1) := by decide +kernel
theorem dL_law_229 : decode cL_law 229 = .ok (.aload_n 0, 1) := by decide +kernel
theorem dL_law_230 : decode cL_law 230 = .ok (.iload_n 3, 1) := by decide +kernel
theorem dL_law_231 : decode cL_law 231 = .ok (.iconst 2, 1) := by decide +kernel
theorem dL_law_232 : decode cL_law 232 = .ok (.iadd, 1) := by decide +kernel
theorem dL_law_233 : decode cL_law 233 = .ok (.iaload, 1) := by decide +kernel
theorem dL_law_234 : decode cL_law 234 = .ok (.aload_n 0, 1) := by decide +kernel
theorem dL_law_235 : decode cL_law 235 = .ok (.iload_n 3, 1) := by decide +kernel
theorem dL_law_236 : decode cL_law 236 = .ok (.iconst 3, 1) := by decide +kernel
theorem dL_law_237 : decode cL_law 237 = .ok (.iadd, 1) := by decide +kernel
theorem dL_law_238 : decode cL_law 238 = .ok (.iaload, 1) := by decide +kernel
theorem dL_law_239 : decode cL_law 239 = .ok (.invokevirtual 18, 3) := by decide +kernel
theorem dL_law_242 : decode cL_law 242 = .ok (.aload_n 2, 1) := by decide +kernel
theorem dL_law_243 : decode cL_law 243 = .ok (.aload_n 0, 1) := by decide +kernel
theorem dL_law_244 : decode cL_law 244 = .ok (.iload_n 3, 1) := by decide +kernel
theorem dL_law_245 : decode cL_law 245 = .ok (.iconst 1, 1) := by decide +kernel
theorem dL_law_246 : decode cL_law 246 = .ok (.iadd, 1) := by decide +kernel
theorem dL_law_247 : decode cL_law 247 = .ok (.iaload, 1) := by decide +kernel
theorem dL_law_248 : decode cL_law 248 = .ok (.aload_n 0, 1) := by decide +kernel
theorem dL_law_249 : decode cL_law 249 = .ok (.iload_n 3, 1) := by decide +kernel
theorem dL_law_250 : decode cL_law 250 = .ok (.iconst 2, 1) := by decide +kernel
theorem dL_law_251 : decode cL_law 251 = .ok (.iadd, 1) := by decide +kernel
theorem dL_law_252 : decode cL_law 252 = .ok (.iaload, 1) := by decide +kernel
theorem dL_law_253 : decode cL_law 253 = .ok (.aload_n 0, 1) := by decide +kernel
theorem dL_law_254 : decode cL_law 254 = .ok (.iload_n 3, 1) := by decide +kernel
theorem dL_law_255 : decode cL_law 255 = .ok (.iconst 3, 1) := by decide +kernel
theorem dL_law_256 : decode cL_law 256 = .ok (.iadd, 1) := by decide +kernel
theorem dL_law_257 : decode cL_law 257 = .ok (.iaload, 1) := by decide +kernel
theorem dL_law_258 : decode cL_law 258 = .ok (.invokevirtual 22, 3) := by decide +kernel
theorem dL_law_261 : decode cL_law 261 = .ok (.if_icmp .eq 1113, 3) := by decide +kernel
theorem dL_law_264 : decode cL_law 264 = .ok (.iconst 0, 1) := by decide +kernel
theorem dL_law_265 : decode cL_law 265 = .ok (.ireturn, 1) := by decide +kernel
theorem dL_law_266 : decode cL_law 266 = .ok (.aload_n 1, 1) := by decide +kernel
theorem dL_law_267 : decode cL_law 267 = .ok (.aload_n 0, 1) := by decide +kernel
theorem dL_law_268 : decode cL_law 268 = .ok (.iload_n 3, 1) := by decide +kernel
theorem dL_law_269 : decode cL_law 269 = .ok (.iconst 1, 1) := by decide +kernel
theorem dL_law_270 : decode cL_law 270 = .ok (.iadd, 1) := by decide +kernel
theorem dL_law_271 : decode cL_law 271 = .ok (.iaload, 1) := by decide +kernel
theorem dL_law_272 : decode cL_law 272 = .ok (.aload_n 0, 1) := by decide +kernel
theorem dL_law_273 : decode cL_law 273 = .ok (.iload_n 3, 1) := by decide +kernel
theorem dL_law_274 : decode cL_law 274 = .ok (.iconst 2, 1) := by decide +kernel
theorem dL_law_275 : decode cL_law 275 = .ok (.iadd, 1) := by decide +kernel
theorem dL_law_276 : decode cL_law 276 = .ok (.iaload, 1) := by decide +kernel
theorem dL_law_277 : decode cL_law 277 = .ok (.invokevirtual 23, 3) := by decide +kernel
theorem dL_law_280 : decode cL_law 280 = .ok (.aload_n 2, 1) := by decide +kernel
theorem dL_law_281 : decode cL_law 281 = .ok (.aload_n 0, 1) := by decide +kernel
theorem dL_law_282 : decode cL_law 282 = .ok (.iload_n 3, 1) := by decide +kernel
theorem dL_law_283 : decode cL_law 283 = .ok (.iconst 1, 1) := by decide +kernel
theorem dL_law_284 : decode cL_law 284 = .ok (.iadd, 1) := by decide +kernel
theorem dL_law_285 : decode cL_law 285 = .ok (.iaload, 1) := by decide +kernel
theorem dL_law_286 : decode cL_law 286 = .ok (.aload_n 0, 1) := by decide +kernel
theorem dL_law_287 : decode cL_law 287 = .ok (.iload_n 3, 1) := by decide +kernel
theorem dL_law_288 : decode cL_law 288 = .ok (.iconst 2, 1) := by decide +kernel
theorem dL_law_289 : decode cL_law 289 = .ok (.iadd, 1) := by decide +kernel
theorem dL_law_290 : decode cL_law 290 = .ok (.iaload, 1) := by decide +kernel
theorem dL_law_291 : decode cL_law 291 = .ok (.invokevirtual 27, 3) := by decide +kernel
theorem dL_law_294 : decode cL_law 294 = .ok (.if_icmp .eq 1080, 3) := by decide +kernel
theorem dL_law_297 : decode cL_law 297 = .ok (.iconst 0, 1) := by decide +kernel
theorem dL_law_298 : decode cL_law 298 = .ok (.ireturn, 1) := by decide +kernel
theorem dL_law_299 : decode cL_law 299 = .ok (.aload_n 1, 1) := by decide +kernel
theorem dL_law_300 : decode cL_law 300 = .ok (.aload_n 0, 1) := by decide +kernel
theorem dL_law_301 : decode cL_law 301 = .ok (.iload_n 3, 1) := by decide +kernel
theorem dL_law_302 : decode cL_law 302 = .ok (.iconst 1, 1) := by decide +kernel
theorem dL_law_303 : decode cL_law 303 = .ok (.iadd, 1) := by decide +kernel
theorem dL_law_304 : decode cL_law 304 = .ok (.iaload, 1) := by decide +kernel
theorem dL_law_305 : decode cL_law 305 = .ok (.invokevirtual 28, 3) := by decide +kernel
theorem dL_law_308 : decode cL_law 308 = .ok (.aload_n 2, 1) := by decide +kernel
theorem dL_law_309 : decode cL_law 309 = .ok (.aload_n 0, 1) := by decide +kernel
theorem dL_law_310 : decode cL_law 310 = .ok (.iload_n 3, 1) := by decide +kernel
theorem dL_law_311 : decode cL_law 311 = .ok (.iconst 1, 1) := by decide +kernel
theorem dL_law_312 : decode cL_law 312 = .ok (.iadd, 1) := by decide +kernel
theorem dL_law_313 : decode cL_law 313 = .ok (.iaload, 1) := by decide +kernel
theorem dL_law_314 : decode cL_law 314 = .ok (.invokevirtual 31, 3) := by decide +kernel
theorem dL_law_317 : decode cL_law 317 = .ok (.if_icmp .eq 1057, 3) := by decide +kernel
theorem dL_law_320 : decode cL_law 320 = .ok (.iconst 0, 1) := by decide +kernel
theorem dL_law_321 : decode cL_law 321 = .ok (.ireturn, 1) := by decide +kernel
theorem dL_law_322 : decode cL_law 322 = .ok (.aload_n 1, 1) := by decide +kernel
theorem dL_law_323 : decode cL_law 323 = .ok (.aload_n 0, 1) := by decide +kernel
theorem dL_law_324 : decode cL_law 324 = .ok (.iload_n 3, 1) := by decide +kernel
theorem dL_law_325 : decode cL_law 325 = .ok (.iconst 1, 1) := by decide +kernel
theorem dL_law_326 : decode cL_law 326 = .ok (.iadd, 1) := by decide +kernel
theorem dL_law_327 : decode cL_law 327 = .ok (.iaload, 1) := by decide +kernel
theorem dL_law_328 : decode cL_law 328 = .ok (.aload_n 0, 1) := by decide +kernel
theorem dL_law_329 : decode cL_law 329 = .ok (.iload_n 3, 1) := by decide +kernel
theorem dL_law_330 : decode cL_law 330 = .ok (.iconst 2, 1) := by decide +kernel
theorem dL_law_331 : decode cL_law 331 = .ok (.iadd, 1) := by decide +kernel
theorem dL_law_332 : decode cL_law 332 = .ok (.iaload, 1) := by decide +kernel
theorem dL_law_333 : decode cL_law 333 = .ok (.aload_n 0, 1) := by decide +kernel
theorem dL_law_334 : decode cL_law 334 = .ok (.iload_n 3, 1) := by decide +kernel
theorem dL_law_335 : decode cL_law 335 = .ok (.iconst 3, 1) := by decide +kernel
theorem dL_law_336 : decode cL_law 336 = .ok (.iadd, 1) := by decide +kernel
theorem dL_law_337 : decode cL_law 337 = .ok (.iaload, 1) := by decide +kernel
theorem dL_law_338 : decode cL_law 338 = .ok (.invokevirtual 32, 3) := by decide +kernel
theorem dL_law_341 : decode cL_law 341 = .ok (.aload_n 2, 1) := by decide +kernel
theorem dL_law_342 : decode cL_law 342 = .ok (.aload_n 0, 1) := by decide +kernel
theorem dL_law_343 : decode cL_law 343 = .ok (.iload_n 3, 1) := by decide +kernel
theorem dL_law_344 : decode cL_law 344 = .ok (.iconst 1, 1) := by decide +kernel
theorem dL_law_345 : decode cL_law 345 = .ok (.iadd, 1) := by decide +kernel
theorem dL_law_346 : decode cL_law 346 = .ok (.iaload, 1) := by decide +kernel
theorem dL_law_347 : decode cL_law 347 = .ok (.aload_n 0, 1) := by decide +kernel
theorem dL_law_348 : decode cL_law 348 = .ok (.iload_n 3, 1) := by decide +kernel
theorem dL_law_349 : decode cL_law 349 = .ok (.iconst 2, 1) := by decide +kernel
theorem dL_law_350 : decode cL_law 350 = .ok (.iadd, 1) := by decide +kernel
theorem dL_law_351 : decode cL_law 351 = .ok (.iaload, 1) := by decide +kernel
theorem dL_law_352 : decode cL_law 352 = .ok (.aload_n 0, 1) := by decide +kernel
theorem dL_law_353 : decode cL_law 353 = .ok (.iload_n 3, 1) := by decide +kernel
theorem dL_law_354 : decode cL_law 354 = .ok (.iconst 3, 1) := by decide +kernel
theorem dL_law_355 : decode cL_law 355 = .ok (.iadd, 1) := by decide +kernel
theorem dL_law_356 : decode cL_law 356 = .ok (.iaload, 1) := by decide +kernel
theorem dL_law_357 : decode cL_law 357 = .ok (.invokevirtual 35, 3) := by decide +kernel
theorem dL_law_360 : decode cL_law 360 = .ok (.if_icmp .eq 1014, 3) := by decide +kernel
theorem dL_law_363 : decode cL_law 363 = .ok (.iconst 0, 1) := by decide +kernel
theorem dL_law_364 : decode cL_law 364 = .ok (.ireturn, 1) := by decide +kernel
theorem dL_law_365 : decode cL_law 365 = .ok (.aload_n 1, 1) := by decide +kernel
theorem dL_law_366 : decode cL_law 366 = .ok (.aload_n 0, 1) := by decide +kernel
theorem dL_law_367 : decode cL_law 367 = .ok (.iload_n 3, 1) := by decide +kernel
theorem dL_law_368 : decode cL_law 368 = .ok (.iconst 1, 1) := by decide +kernel
theorem dL_law_369 : decode cL_law 369 = .ok (.iadd, 1) := by decide +kernel
theorem dL_law_370 : decode cL_law 370 = .ok (.iaload, 1) := by decide +kernel
theorem dL_law_371 : decode cL_law 371 = .ok (.aload_n 0, 1) := by decide +kernel
theorem dL_law_372 : decode cL_law 372 = .ok (.iload_n 3, 1) := by decide +kernel
theorem dL_law_373 : decode cL_law 373 = .ok (.iconst 2, 1) := by decide +kernel
theorem dL_law_374 : decode cL_law 374 = .ok (.iadd, 1) := by decide +kernel
theorem dL_law_375 : decode cL_law 375 = .ok (.iaload, 1) := by decide +kernel
theorem dL_law_376 : decode cL_law 376 = .ok (.aload_n 0, 1) := by decide +kernel
theorem dL_law_377 : decode cL_law 377 = .ok (.iload_n 3, 1) := by decide +kernel
theorem dL_law_378 : decode cL_law 378 = .ok (.iconst 3, 1) := by decide +kernel
theorem dL_law_379 : decode cL_law 379 = .ok (.iadd, 1) := by decide +kernel
theorem dL_law_380 : decode cL_law 380 = .ok (.iaload, 1) := by decide +kernel
theorem dL_law_381 : decode cL_law 381 = .ok (.invokevirtual 36, 3) := by decide +kernel
theorem dL_law_384 : decode cL_law 384 = .ok (.aload_n 2, 1) := by decide +kernel
theorem dL_law_385 : decode cL_law 385 = .ok (.aload_n 0, 1) := by decide +kernel
theorem dL_law_386 : decode cL_law 386 = .ok (.iload_n 3, 1) := by decide +kernel
theorem dL_law_387 : decode cL_law 387 = .ok (.iconst 1, 1) := by decide +kernel
theorem dL_law_388 : decode cL_law 388 = .ok (.iadd, 1) := by decide +kernel
theorem dL_law_389 : decode cL_law 389 = .ok (.iaload, 1) := by decide +kernel
theorem dL_law_390 : decode cL_law 390 = .ok (.aload_n 0, 1) := by decide +kernel
theorem dL_law_391 : decode cL_law 391 = .ok (.iload_n 3, 1) := by decide +kernel
theorem dL_law_392 : decode cL_law 392 = .ok (.iconst 2, 1) := by decide +kernel
theorem dL_law_393 : decode cL_law 393 = .ok (.iadd, 1) := by decide +kernel
theorem dL_law_394 : decode cL_law 394 = .ok (.iaload, 1) := by decide +kernel
theorem dL_law_395 : decode cL_law 395 = .ok (.aload_n 0, 1) := by decide +kernel
theorem dL_law_396 : decode cL_law 396 = .ok (.iload_n 3, 1) := by decide +kernel
theorem dL_law_397 : decode cL_law 397 = .ok (.iconst 3, 1) := by decide +kernel
theorem dL_law_398 : decode cL_law 398 = .ok (.iadd, 1) := by decide +kernel
theorem dL_law_399 : decode cL_law 399 = .ok (.iaload, 1) := by decide +kernel
theorem dL_law_400 : decode cL_law 400 = .ok (.invokevirtual 39, 3) := by decide +kernel
theorem dL_law_403 : decode cL_law 403 = .ok (.if_icmp .eq 971, 3) := by decide +kernel
theorem dL_law_406 : decode cL_law 406 = .ok (.iconst 0, 1) := by decide +kernel
theorem dL_law_407 : decode cL_law 407 = .ok (.ireturn, 1) := by decide +kernel
theorem dL_law_408 : decode cL_law 408 = .ok (.aload_n 1, 1) := by decide +kernel
theorem dL_law_409 : decode cL_law 409 = .ok (.aload_n 0, 1) := by decide +kernel
theorem dL_law_410 : decode cL_law 410 = .ok (.iload_n 3, 1) := by decide +kernel
theorem dL_law_411 : decode cL_law 411 = .ok (.iconst 1, 1) := by decide +kernel
theorem dL_law_412 : decode cL_law 412 = .ok (.iadd, 1) := by decide +kernel
theorem dL_law_413 : decode cL_law 413 = .ok (.iaload, 1) := by decide +kernel
theorem dL_law_414 : decode cL_law 414 = .ok (.aload_n 0, 1) := by decide +kernel
theorem dL_law_415 : decode cL_law 415 = .ok (.iload_n 3, 1) := by decide +kernel
theorem dL_law_416 : decode cL_law 416 = .ok (.iconst 2, 1) := by decide +kernel
theorem dL_law_417 : decode cL_law 417 = .ok (.iadd, 1) := by decide +kernel
theorem dL_law_418 : decode cL_law 418 = .ok (.iaload, 1) := by decide +kernel
theorem dL_law_419 : decode cL_law 419 = .ok (.aload_n 0, 1) := by decide +kernel
theorem dL_law_420 : decode cL_law 420 = .ok (.iload_n 3, 1) := by decide +kernel
theorem dL_law_421 : decode cL_law 421 = .ok (.iconst 3, 1) := by decide +kernel
theorem dL_law_422 : decode cL_law 422 = .ok (.iadd, 1) := by decide +kernel
theorem dL_law_423 : decode cL_law 423 = .ok (.iaload, 1) := by decide +kernel
theorem dL_law_424 : decode cL_law 424 = .ok (.invokevirtual 40, 3) := by decide +kernel
theorem dL_law_427 : decode cL_law 427 = .ok (.aload_n 2, 1) := by decide +kernel
theorem dL_law_428 : decode cL_law 428 = .ok (.aload_n 0, 1) := by decide +kernel
theorem dL_law_429 : decode cL_law 429 = .ok (.iload_n 3, 1) := by decide +kernel
theorem dL_law_430 : decode cL_law 430 = .ok (.iconst 1, 1) := by decide +kernel
theorem dL_law_431 : decode cL_law 431 = .ok (.iadd, 1) := by decide +kernel
theorem dL_law_432 : decode cL_law 432 = .ok (.iaload, 1) := by decide +kernel
theorem dL_law_433 : decode cL_law 433 = .ok (.aload_n 0, 1) := by decide +kernel
theorem dL_law_434 : decode cL_law 434 = .ok (.iload_n 3, 1) := by decide +kernel
theorem dL_law_435 : decode cL_law 435 = .ok (.iconst 2, 1) := by decide +kernel
theorem dL_law_436 : decode cL_law 436 = .ok (.iadd, 1) := by decide +kernel
theorem dL_law_437 : decode cL_law 437 = .ok (.iaload, 1) := by decide +kernel
theorem dL_law_438 : decode cL_law 438 = .ok (.aload_n 0, 1) := by decide +kernel
theorem dL_law_439 : decode cL_law 439 = .ok (.iload_n 3, 1) := by decide +kernel
theorem dL_law_440 : decode cL_law 440 = .ok (.iconst 3, 1) := by decide +kernel
theorem dL_law_441 : decode cL_law 441 = .ok (.iadd, 1) := by decide +kernel
theorem dL_law_442 : decode cL_law 442 = .ok (.iaload, 1) := by decide +kernel
theorem dL_law_443 : decode cL_law 443 = .ok (.invokevirtual 43, 3) := by decide +kernel
theorem dL_law_446 : decode cL_law 446 = .ok (.if_icmp .eq 928, 3) := by decide +kernel
theorem dL_law_449 : decode cL_law 449 = .ok (.iconst 0, 1) := by decide +kernel
theorem dL_law_450 : decode cL_law 450 = .ok (.ireturn, 1) := by decide +kernel
theorem dL_law_451 : decode cL_law 451 = .ok (.aload_n 1, 1) := by decide +kernel
theorem dL_law_452 : decode cL_law 452 = .ok (.aload_n 0, 1) := by decide +kernel
theorem dL_law_453 : decode cL_law 453 = .ok (.iload_n 3, 1) := by decide +kernel
theorem dL_law_454 : decode cL_law 454 = .ok (.iconst 1, 1) := by decide +kernel
theorem dL_law_455 : decode cL_law 455 = .ok (.iadd, 1) := by decide +kernel
theorem dL_law_456 : decode cL_law 456 = .ok (.iaload, 1) := by decide +kernel
theorem dL_law_457 : decode cL_law 457 = .ok (.invokevirtual 44, 3) := by decide +kernel
theorem dL_law_460 : decode cL_law 460 = .ok (.aload_n 2, 1) := by decide +kernel
theorem dL_law_461 : decode cL_law 461 = .ok (.aload_n 0, 1) := by decide +kernel
theorem dL_law_462 : decode cL_law 462 = .ok (.iload_n 3, 1) := by decide +kernel
theorem dL_law_463 : decode cL_law 463 = .ok (.iconst 1, 1) := by decide +kernel
theorem dL_law_464 : decode cL_law 464 = .ok (.iadd, 1) := by decide +kernel
theorem dL_law_465 : decode cL_law 465 = .ok (.iaload, 1) := by decide +kernel
theorem dL_law_466 : decode cL_law 466 = .ok (.invokevirtual 47, 3) := by decide +kernel
theorem dL_law_469 : decode cL_law 469 = .ok (.if_icmp .eq 905, 3) := by decide +kernel
theorem dL_law_472 : decode cL_law 472 = .ok (.iconst 0, 1) := by decide +kernel
theorem dL_law_473 : decode cL_law 473 = .ok (.ireturn, 1) := by decide +kernel
theorem dL_law_474 : decode cL_law 474 = .ok (.aload_n 1, 1) := by decide +kernel
theorem dL_law_475 : decode cL_law 475 = .ok (.aload_n 0, 1) := by decide +kernel
theorem dL_law_476 : decode cL_law 476 = .ok (.iload_n 3, 1) := by decide +kernel
theorem dL_law_477 : decode cL_law 477 = .ok (.iconst 1, 1) := by decide +kernel
theorem dL_law_478 : decode cL_law 478 = .ok (.iadd, 1) := by decide +kernel
theorem dL_law_479 : decode cL_law 479 = .ok (.iaload, 1) := by decide +kernel
theorem dL_law_480 : decode cL_law 480 = .ok (.aload_n 0, 1) := by decide +kernel
theorem dL_law_481 : decode cL_law 481 = .ok (.iload_n 3, 1) := by decide +kernel
theorem dL_law_482 : decode cL_law 482 = .ok (.iconst 2, 1) := by decide +kernel
theorem dL_law_483 : decode cL_law 483 = .ok (.iadd, 1) := by decide +kernel
theorem dL_law_484 : decode cL_law 484 = .ok (.iaload, 1) := by decide +kernel
theorem dL_law_485 : decode cL_law 485 = .ok (.invokevirtual 48, 3) := by decide +kernel
theorem dL_law_488 : decode cL_law 488 = .ok (.aload_n 2, 1) := by decide +kernel
theorem dL_law_489 : decode cL_law 489 = .ok (.aload_n 0, 1) := by decide +kernel
theorem dL_law_490 : decode cL_law 490 = .ok (.iload_n 3, 1) := by decide +kernel
theorem dL_law_491 : decode cL_law 491 = .ok (.iconst 1, 1) := by decide +kernel
theorem dL_law_492 : decode cL_law 492 = .ok (.iadd, 1) := by decide +kernel
theorem dL_law_493 : decode cL_law 493 = .ok (.iaload, 1) := by decide +kernel
theorem dL_law_494 : decode cL_law 494 = .ok (.aload_n 0, 1) := by decide +kernel
theorem dL_law_495 : decode cL_law 495 = .ok (.iload_n 3, 1) := by decide +kernel
theorem dL_law_496 : decode cL_law 496 = .ok (.iconst 2, 1) := by decide +kernel
theorem dL_law_497 : decode cL_law 497 = .ok (.iadd, 1) := by decide +kernel
theorem dL_law_498 : decode cL_law 498 = .ok (.iaload, 1) := by decide +kernel
theorem dL_law_499 : decode cL_law 499 = .ok (.invokevirtual 51, 3) := by decide +kernel
theorem dL_law_502 : decode cL_law 502 = .ok (.if_icmp .eq 872, 3) := by decide +kernel
theorem dL_law_505 : decode cL_law 505 = .ok (.iconst 0, 1) := by decide +kernel
theorem dL_law_506 : decode cL_law 506 = .ok (.ireturn, 1) := by decide +kernel
theorem dL_law_507 : decode cL_law 507 = .ok (.aload_n 1, 1) := by decide +kernel
theorem dL_law_508 : decode cL_law 508 = .ok (.aload_n 0, 1) := by decide +kernel
theorem dL_law_509 : decode cL_law 509 = .ok (.iload_n 3, 1) := by decide +kernel
theorem dL_law_510 : decode cL_law 510 = .ok (.iconst 1, 1) := by decide +kernel
theorem dL_law_511 : decode cL_law 511 = .ok (.iadd, 1) := by decide +kernel
theorem dL_law_512 : decode cL_law 512 = .ok (.iaload, 1) := by decide +kernel
theorem dL_law_513 : decode cL_law 513 = .ok (.invokevirtual 52, 3) := by decide +kernel
theorem dL_law_516 : decode cL_law 516 = .ok (.aload_n 2, 1) := by decide +kernel
theorem dL_law_517 : decode cL_law 517 = .ok (.aload_n 0, 1) := by decide +kernel
theorem dL_law_518 : decode cL_law 518 = .ok (.iload_n 3, 1) := by decide +kernel
theorem dL_law_519 : decode cL_law 519 = .ok (.iconst 1, 1) := by decide +kernel
theorem dL_law_520 : decode cL_law 520 = .ok (.iadd, 1) := by decide +kernel
theorem dL_law_521 : decode cL_law 521 = .ok (.iaload, 1) := by decide +kernel
theorem dL_law_522 : decode cL_law 522 = .ok (.invokevirtual 55, 3) := by decide +kernel
theorem dL_law_525 : decode cL_law 525 = .ok (.if_icmp .eq 849, 3) := by decide +kernel
theorem dL_law_528 : decode cL_law 528 = .ok (.iconst 0, 1) := by decide +kernel
theorem dL_law_529 : decode cL_law 529 = .ok (.ireturn, 1) := by decide +kernel
theorem dL_law_530 : decode cL_law 530 = .ok (.aload_n 1, 1) := by decide +kernel
theorem dL_law_531 : decode cL_law 531 = .ok (.invokevirtual 56, 3) := by decide +kernel
theorem dL_law_534 : decode cL_law 534 = .ok (.aload_n 2, 1) := by decide +kernel
theorem dL_law_535 : decode cL_law 535 = .ok (.invokevirtual 60, 3) := by decide +kernel
theorem dL_law_538 : decode cL_law 538 = .ok (.if_icmp .eq 836, 3) := by decide +kernel
theorem dL_law_541 : decode cL_law 541 = .ok (.iconst 0, 1) := by decide +kernel
theorem dL_law_542 : decode cL_law 542 = .ok (.ireturn, 1) := by decide +kernel
theorem dL_law_543 : decode cL_law 543 = .ok (.aload_n 1, 1) := by decide +kernel
theorem dL_law_544 : decode cL_law 544 = .ok (.aload_n 0, 1) := by decide +kernel
theorem dL_law_545 : decode cL_law 545 = .ok (.iload_n 3, 1) := by decide +kernel
theorem dL_law_546 : decode cL_law 546 = .ok (.iconst 1, 1) := by decide +kernel
theorem dL_law_547 : decode cL_law 547 = .ok (.iadd, 1) := by decide +kernel
theorem dL_law_548 : decode cL_law 548 = .ok (.iaload, 1) := by decide +kernel
theorem dL_law_549 : decode cL_law 549 = .ok (.invokevirtual 61, 3) := by decide +kernel
theorem dL_law_552 : decode cL_law 552 = .ok (.aload_n 2, 1) := by decide +kernel
theorem dL_law_553 : decode cL_law 553 = .ok (.aload_n 0, 1) := by decide +kernel
theorem dL_law_554 : decode cL_law 554 = .ok (.iload_n 3, 1) := by decide +kernel
theorem dL_law_555 : decode cL_law 555 = .ok (.iconst 1, 1) := by decide +kernel
theorem dL_law_556 : decode cL_law 556 = .ok (.iadd, 1) := by decide +kernel
theorem dL_law_557 : decode cL_law 557 = .ok (.iaload, 1) := by decide +kernel
theorem dL_law_558 : decode cL_law 558 = .ok (.invokevirtual 64, 3) := by decide +kernel
theorem dL_law_561 : decode cL_law 561 = .ok (.if_icmp .eq 813, 3) := by decide +kernel
theorem dL_law_564 : decode cL_law 564 = .ok (.iconst 0, 1) := by decide +kernel
theorem dL_law_565 : decode cL_law 565 = .ok (.ireturn, 1) := by decide +kernel
theorem dL_law_566 : decode cL_law 566 = .ok (.aload_n 1, 1) := by decide +kernel
theorem dL_law_567 : decode cL_law 567 = .ok (.aload_n 0, 1) := by decide +kernel
theorem dL_law_568 : decode cL_law 568 = .ok (.iload_n 3, 1) := by decide +kernel
theorem dL_law_569 : decode cL_law 569 = .ok (.iconst 1, 1) := by decide +kernel
theorem dL_law_570 : decode cL_law 570 = .ok (.iadd, 1) := by decide +kernel
theorem dL_law_571 : decode cL_law 571 = .ok (.iaload, 1) := by decide +kernel
theorem dL_law_572 : decode cL_law 572 = .ok (.aload_n 0, 1) := by decide +kernel
theorem dL_law_573 : decode cL_law 573 = .ok (.iload_n 3, 1) := by decide +kernel
theorem dL_law_574 : decode cL_law 574 = .ok (.iconst 2, 1) := by decide +kernel
theorem dL_law_575 : decode cL_law 575 = .ok (.iadd, 1) := by decide +kernel
theorem dL_law_576 : decode cL_law 576 = .ok (.iaload, 1) := by decide +kernel
theorem dL_law_577 : decode cL_law 577 = .ok (.aload_n 0, 1) := by decide +kernel
theorem dL_law_578 : decode cL_law 578 = .ok (.iload_n 3, 1) := by decide +kernel
theorem dL_law_579 : decode cL_law 579 = .ok (.iconst 3, 1) := by decide +kernel
theorem dL_law_580 : decode cL_law 580 = .ok (.iadd, 1) := by decide +kernel
theorem dL_law_581 : decode cL_law 581 = .ok (.iaload, 1) := by decide +kernel
theorem dL_law_582 : decode cL_law 582 = .ok (.invokevirtual 65, 3) := by decide +kernel
theorem dL_law_585 : decode cL_law 585 = .ok (.aload_n 2, 1) := by decide +kernel
theorem dL_law_586 : decode cL_law 586 = .ok (.aload_n 0, 1) := by decide +kernel
theorem dL_law_587 : decode cL_law 587 = .ok (.iload_n 3, 1) := by decide +kernel
theorem dL_law_588 : decode cL_law 588 = .ok (.iconst 1, 1) := by decide +kernel
theorem dL_law_589 : decode cL_law 589 = .ok (.iadd, 1) := by decide +kernel
theorem dL_law_590 : decode cL_law 590 = .ok (.iaload, 1) := by decide +kernel
theorem dL_law_591 : decode cL_law 591 = .ok (.aload_n 0, 1) := by decide +kernel
theorem dL_law_592 : decode cL_law 592 = .ok (.iload_n 3, 1) := by decide +kernel
theorem dL_law_593 : decode cL_law 593 = .ok (.iconst 2, 1) := by decide +kernel
theorem dL_law_594 : decode cL_law 594 = .ok (.iadd, 1) := by decide +kernel
theorem dL_law_595 : decode cL_law 595 = .ok (.iaload, 1) := by decide +kernel
theorem dL_law_596 : decode cL_law 596 = .ok (.aload_n 0, 1) := by decide +kernel
theorem dL_law_597 : decode cL_law 597 = .ok (.iload_n 3, 1) := by decide +kernel
theorem dL_law_598 : decode cL_law 598 = .ok (.iconst 3, 1) := by decide +kernel
theorem dL_law_599 : decode cL_law 599 = .ok (.iadd, 1) := by decide +kernel
theorem dL_law_600 : decode cL_law 600 = .ok (.iaload, 1) := by decide +kernel
theorem dL_law_601 : decode cL_law 601 = .ok (.invokevirtual 69, 3) := by decide +kernel
theorem dL_law_604 : decode cL_law 604 = .ok (.lcmp, 1) := by decide +kernel
theorem dL_law_605 : decode cL_law 605 = .ok (.ifCond .eq 769, 3) := by decide +kernel
theorem dL_law_608 : decode cL_law 608 = .ok (.iconst 0, 1) := by decide +kernel
theorem dL_law_609 : decode cL_law 609 = .ok (.ireturn, 1) := by decide +kernel
theorem dL_law_610 : decode cL_law 610 = .ok (.aload_n 1, 1) := by decide +kernel
theorem dL_law_611 : decode cL_law 611 = .ok (.aload_n 0, 1) := by decide +kernel
theorem dL_law_612 : decode cL_law 612 = .ok (.iload_n 3, 1) := by decide +kernel
theorem dL_law_613 : decode cL_law 613 = .ok (.iconst 1, 1) := by decide +kernel
theorem dL_law_614 : decode cL_law 614 = .ok (.iadd, 1) := by decide +kernel
theorem dL_law_615 : decode cL_law 615 = .ok (.iaload, 1) := by decide +kernel
theorem dL_law_616 : decode cL_law 616 = .ok (.aload_n 0, 1) := by decide +kernel
theorem dL_law_617 : decode cL_law 617 = .ok (.iload_n 3, 1) := by decide +kernel
theorem dL_law_618 : decode cL_law 618 = .ok (.iconst 2, 1) := by decide +kernel
theorem dL_law_619 : decode cL_law 619 = .ok (.iadd, 1) := by decide +kernel
theorem dL_law_620 : decode cL_law 620 = .ok (.iaload, 1) := by decide +kernel
theorem dL_law_621 : decode cL_law 621 = .ok (.invokevirtual 70, 3) := by decide +kernel
theorem dL_law_624 : decode cL_law 624 = .ok (.aload_n 2, 1) := by decide +kernel
theorem dL_law_625 : decode cL_law 625 = .ok (.aload_n 0, 1) := by decide +kernel
theorem dL_law_626 : decode cL_law 626 = .ok (.iload_n 3, 1) := by decide +kernel
theorem dL_law_627 : decode cL_law 627 = .ok (.iconst 1, 1) := by decide +kernel
theorem dL_law_628 : decode cL_law 628 = .ok (.iadd, 1) := by decide +kernel
theorem dL_law_629 : decode cL_law 629 = .ok (.iaload, 1) := by decide +kernel
theorem dL_law_630 : decode cL_law 630 = .ok (.aload_n 0, 1) := by decide +kernel
theorem dL_law_631 : decode cL_law 631 = .ok (.iload_n 3, 1) := by decide +kernel
theorem dL_law_632 : decode cL_law 632 = .ok (.iconst 2, 1) := by decide +kernel
theorem dL_law_633 : decode cL_law 633 = .ok (.iadd, 1) := by decide +kernel
theorem dL_law_634 : decode cL_law 634 = .ok (.iaload, 1) := by decide +kernel
theorem dL_law_635 : decode cL_law 635 = .ok (.invokevirtual 74, 3) := by decide +kernel
theorem dL_law_638 : decode cL_law 638 = .ok (.lcmp, 1) := by decide +kernel
theorem dL_law_639 : decode cL_law 639 = .ok (.ifCond .eq 735, 3) := by decide +kernel
theorem dL_law_642 : decode cL_law 642 = .ok (.iconst 0, 1) := by decide +kernel
theorem dL_law_643 : decode cL_law 643 = .ok (.ireturn, 1) := by decide +kernel
theorem dL_law_644 : decode cL_law 644 = .ok (.aload_n 1, 1) := by decide +kernel
theorem dL_law_645 : decode cL_law 645 = .ok (.aload_n 0, 1) := by decide +kernel
theorem dL_law_646 : decode cL_law 646 = .ok (.iload_n 3, 1) := by decide +kernel
theorem dL_law_647 : decode cL_law 647 = .ok (.iconst 1, 1) := by decide +kernel
theorem dL_law_648 : decode cL_law 648 = .ok (.iadd, 1) := by decide +kernel
theorem dL_law_649 : decode cL_law 649 = .ok (.iaload, 1) := by decide +kernel
theorem dL_law_650 : decode cL_law 650 = .ok (.aload_n 0, 1) := by decide +kernel
theorem dL_law_651 : decode cL_law 651 = .ok (.iload_n 3, 1) := by decide +kernel
theorem dL_law_652 : decode cL_law 652 = .ok (.iconst 2, 1) := by decide +kernel
theorem dL_law_653 : decode cL_law 653 = .ok (.iadd, 1) := by decide +kernel
theorem dL_law_654 : decode cL_law 654 = .ok (.iaload, 1) := by decide +kernel
theorem dL_law_655 : decode cL_law 655 = .ok (.aload_n 0, 1) := by decide +kernel
theorem dL_law_656 : decode cL_law 656 = .ok (.iload_n 3, 1) := by decide +kernel
theorem dL_law_657 : decode cL_law 657 = .ok (.iconst 3, 1) := by decide +kernel
theorem dL_law_658 : decode cL_law 658 = .ok (.iadd, 1) := by decide +kernel
theorem dL_law_659 : decode cL_law 659 = .ok (.iaload, 1) := by decide +kernel
theorem dL_law_660 : decode cL_law 660 = .ok (.invokevirtual 75, 3) := by decide +kernel
theorem dL_law_663 : decode cL_law 663 = .ok (.aload_n 2, 1) := by decide +kernel
theorem dL_law_664 : decode cL_law 664 = .ok (.aload_n 0, 1) := by decide +kernel
theorem dL_law_665 : decode cL_law 665 = .ok (.iload_n 3, 1) := by decide +kernel
theorem dL_law_666 : decode cL_law 666 = .ok (.iconst 1, 1) := by decide +kernel
theorem dL_law_667 : decode cL_law 667 = .ok (.iadd, 1) := by decide +kernel
theorem dL_law_668 : decode cL_law 668 = .ok (.iaload, 1) := by decide +kernel
theorem dL_law_669 : decode cL_law 669 = .ok (.aload_n 0, 1) := by decide +kernel
theorem dL_law_670 : decode cL_law 670 = .ok (.iload_n 3, 1) := by decide +kernel
theorem dL_law_671 : decode cL_law 671 = .ok (.iconst 2, 1) := by decide +kernel
theorem dL_law_672 : decode cL_law 672 = .ok (.iadd, 1) := by decide +kernel
theorem dL_law_673 : decode cL_law 673 = .ok (.iaload, 1) := by decide +kernel
theorem dL_law_674 : decode cL_law 674 = .ok (.aload_n 0, 1) := by decide +kernel
theorem dL_law_675 : decode cL_law 675 = .ok (.iload_n 3, 1) := by decide +kernel
theorem dL_law_676 : decode cL_law 676 = .ok (.iconst 3, 1) := by decide +kernel
theorem dL_law_677 : decode cL_law 677 = .ok (.iadd, 1) := by decide +kernel
theorem dL_law_678 : decode cL_law 678 = .ok (.iaload, 1) := by decide +kernel
theorem dL_law_679 : decode cL_law 679 = .ok (.invokevirtual 78, 3) := by decide +kernel
theorem dL_law_682 : decode cL_law 682 = .ok (.lcmp, 1) := by decide +kernel
theorem dL_law_683 : decode cL_law 683 = .ok (.ifCond .eq 691, 3) := by decide +kernel
theorem dL_law_686 : decode cL_law 686 = .ok (.iconst 0, 1) := by decide +kernel
theorem dL_law_687 : decode cL_law 687 = .ok (.ireturn, 1) := by decide +kernel
theorem dL_law_688 : decode cL_law 688 = .ok (.aload_n 1, 1) := by decide +kernel
theorem dL_law_689 : decode cL_law 689 = .ok (.aload_n 0, 1) := by decide +kernel
theorem dL_law_690 : decode cL_law 690 = .ok (.iload_n 3, 1) := by decide +kernel
theorem dL_law_691 : decode cL_law 691 = .ok (.iconst 1, 1) := by decide +kernel
theorem dL_law_692 : decode cL_law 692 = .ok (.iadd, 1) := by decide +kernel
theorem dL_law_693 : decode cL_law 693 = .ok (.iaload, 1) := by decide +kernel
theorem dL_law_694 : decode cL_law 694 = .ok (.aload_n 0, 1) := by decide +kernel
theorem dL_law_695 : decode cL_law 695 = .ok (.iload_n 3, 1) := by decide +kernel
theorem dL_law_696 : decode cL_law 696 = .ok (.iconst 2, 1) := by decide +kernel
theorem dL_law_697 : decode cL_law 697 = .ok (.iadd, 1) := by decide +kernel
theorem dL_law_698 : decode cL_law 698 = .ok (.iaload, 1) := by decide +kernel
theorem dL_law_699 : decode cL_law 699 = .ok (.aload_n 0, 1) := by decide +kernel
theorem dL_law_700 : decode cL_law 700 = .ok (.iload_n 3, 1) := by decide +kernel
theorem dL_law_701 : decode cL_law 701 = .ok (.iconst 3, 1) := by decide +kernel
theorem dL_law_702 : decode cL_law 702 = .ok (.iadd, 1) := by decide +kernel
theorem dL_law_703 : decode cL_law 703 = .ok (.iaload, 1) := by decide +kernel
theorem dL_law_704 : decode cL_law 704 = .ok (.invokevirtual 79, 3) := by decide +kernel
theorem dL_law_707 : decode cL_law 707 = .ok (.aload_n 2, 1) := by decide +kernel
theorem dL_law_708 : decode cL_law 708 = .ok (.aload_n 0, 1) := by decide +kernel
theorem dL_law_709 : decode cL_law 709 = .ok (.iload_n 3, 1) := by decide +kernel
theorem dL_law_710 : decode cL_law 710 = .ok (.iconst 1, 1) := by decide +kernel
theorem dL_law_711 : decode cL_law 711 = .ok (.iadd, 1) := by decide +kernel
theorem dL_law_712 : decode cL_law 712 = .ok (.iaload, 1) := by decide +kernel
theorem dL_law_713 : decode cL_law 713 = .ok (.aload_n 0, 1) := by decide +kernel
theorem dL_law_714 : decode cL_law 714 = .ok (.iload_n 3, 1) := by decide +kernel
theorem dL_law_715 : decode cL_law 715 = .ok (.iconst 2, 1) := by decide +kernel
theorem dL_law_716 : decode cL_law 716 = .ok (.iadd, 1) := by decide +kernel
theorem dL_law_717 : decode cL_law 717 = .ok (.iaload, 1) := by decide +kernel
theorem dL_law_718 : decode cL_law 718 = .ok (.aload_n 0, 1) := by decide +kernel
theorem dL_law_719 : decode cL_law 719 = .ok (.iload_n 3, 1) := by decide +kernel
theorem dL_law_720 : decode cL_law 720 = .ok (.iconst 3, 1) := by decide +kernel
theorem dL_law_721 : decode cL_law 721 = .ok (.iadd, 1) := by decide +kernel
theorem dL_law_722 : decode cL_law 722 = .ok (.iaload, 1) := by decide +kernel
theorem dL_law_723 : decode cL_law 723 = .ok (.invokevirtual 82, 3) := by decide +kernel
theorem dL_law_726 : decode cL_law 726 = .ok (.lcmp, 1) := by decide +kernel
theorem dL_law_727 : decode cL_law 727 = .ok (.ifCond .eq 647, 3) := by decide +kernel
theorem dL_law_730 : decode cL_law 730 = .ok (.iconst 0, 1) := by decide +kernel
theorem dL_law_731 : decode cL_law 731 = .ok (.ireturn, 1) := by decide +kernel
theorem dL_law_732 : decode cL_law 732 = .ok (.aload_n 1, 1) := by decide +kernel
theorem dL_law_733 : decode cL_law 733 = .ok (.aload_n 0, 1) := by decide +kernel
theorem dL_law_734 : decode cL_law 734 = .ok (.iload_n 3, 1) := by decide +kernel
theorem dL_law_735 : decode cL_law 735 = .ok (.iconst 1, 1) := by decide +kernel
theorem dL_law_736 : decode cL_law 736 = .ok (.iadd, 1) := by decide +kernel
theorem dL_law_737 : decode cL_law 737 = .ok (.iaload, 1) := by decide +kernel
theorem dL_law_738 : decode cL_law 738 = .ok (.invokevirtual 83, 3) := by decide +kernel
theorem dL_law_741 : decode cL_law 741 = .ok (.aload_n 2, 1) := by decide +kernel
theorem dL_law_742 : decode cL_law 742 = .ok (.aload_n 0, 1) := by decide +kernel
theorem dL_law_743 : decode cL_law 743 = .ok (.iload_n 3, 1) := by decide +kernel
theorem dL_law_744 : decode cL_law 744 = .ok (.iconst 1, 1) := by decide +kernel
theorem dL_law_745 : decode cL_law 745 = .ok (.iadd, 1) := by decide +kernel
theorem dL_law_746 : decode cL_law 746 = .ok (.iaload, 1) := by decide +kernel
theorem dL_law_747 : decode cL_law 747 = .ok (.invokevirtual 86, 3) := by decide +kernel
theorem dL_law_750 : decode cL_law 750 = .ok (.if_icmp .eq 624, 3) := by decide +kernel
theorem dL_law_753 : decode cL_law 753 = .ok (.iconst 0, 1) := by decide +kernel
theorem dL_law_754 : decode cL_law 754 = .ok (.ireturn, 1) := by decide +kernel
theorem dL_law_755 : decode cL_law 755 = .ok (.aload_n 1, 1) := by decide +kernel
theorem dL_law_756 : decode cL_law 756 = .ok (.aload_n 0, 1) := by decide +kernel
theorem dL_law_757 : decode cL_law 757 = .ok (.iload_n 3, 1) := by decide +kernel
theorem dL_law_758 : decode cL_law 758 = .ok (.iconst 1, 1) := by decide +kernel
theorem dL_law_759 : decode cL_law 759 = .ok (.iadd, 1) := by decide +kernel
theorem dL_law_760 : decode cL_law 760 = .ok (.iaload, 1) := by decide +kernel
theorem dL_law_761 : decode cL_law 761 = .ok (.invokevirtual 87, 3) := by decide +kernel
theorem dL_law_764 : decode cL_law 764 = .ok (.aload_n 2, 1) := by decide +kernel
theorem dL_law_765 : decode cL_law 765 = .ok (.aload_n 0, 1) := by decide +kernel
theorem dL_law_766 : decode cL_law 766 = .ok (.iload_n 3, 1) := by decide +kernel
theorem dL_law_767 : decode cL_law 767 = .ok (.iconst 1, 1) := by decide +kernel
theorem dL_law_768 : decode cL_law 768 = .ok (.iadd, 1) := by decide +kernel
theorem dL_law_769 : decode cL_law 769 = .ok (.iaload, 1) := by decide +kernel
theorem dL_law_770 : decode cL_law 770 = .ok (.invokevirtual 90, 3) := by decide +kernel
theorem dL_law_773 : decode cL_law 773 = .ok (.if_icmp .eq 601, 3) := by decide +kernel
theorem dL_law_776 : decode cL_law 776 = .ok (.iconst 0, 1) := by decide +kernel
theorem dL_law_777 : decode cL_law 777 = .ok (.ireturn, 1) := by decide +kernel
theorem dL_law_778 : decode cL_law 778 = .ok (.aload_n 1, 1) := by decide +kernel
theorem dL_law_779 : decode cL_law 779 = .ok (.invokevirtual 91, 3) := by decide +kernel
theorem dL_law_782 : decode cL_law 782 = .ok (.aload_n 2, 1) := by decide +kernel
theorem dL_law_783 : decode cL_law 783 = .ok (.invokevirtual 94, 3) := by decide +kernel
theorem dL_law_786 : decode cL_law 786 = .ok (.if_icmp .eq 588, 3) := by decide +kernel
theorem dL_law_789 : decode cL_law 789 = .ok (.iconst 0, 1) := by decide +kernel
theorem dL_law_790 : decode cL_law 790 = .ok (.ireturn, 1) := by decide +kernel
theorem dL_law_791 : decode cL_law 791 = .ok (.aload_n 1, 1) := by decide +kernel
theorem dL_law_792 : decode cL_law 792 = .ok (.aload_n 0, 1) := by decide +kernel
theorem dL_law_793 : decode cL_law 793 = .ok (.iload_n 3, 1) := by decide +kernel
theorem dL_law_794 : decode cL_law 794 = .ok (.iconst 1, 1) := by decide +kernel
theorem dL_law_795 : decode cL_law 795 = .ok (.iadd, 1) := by decide +kernel
theorem dL_law_796 : decode cL_law 796 = .ok (.iaload, 1) := by decide +kernel
theorem dL_law_797 : decode cL_law 797 = .ok (.invokevirtual 95, 3) := by decide +kernel
theorem dL_law_800 : decode cL_law 800 = .ok (.aload_n 2, 1) := by decide +kernel
theorem dL_law_801 : decode cL_law 801 = .ok (.aload_n 0, 1) := by decide +kernel
theorem dL_law_802 : decode cL_law 802 = .ok (.iload_n 3, 1) := by decide +kernel
theorem dL_law_803 : decode cL_law 803 = .ok (.iconst 1, 1) := by decide +kernel
theorem dL_law_804 : decode cL_law 804 = .ok (.iadd, 1) := by decide +kernel
theorem dL_law_805 : decode cL_law 805 = .ok (.iaload, 1) := by decide +kernel
theorem dL_law_806 : decode cL_law 806 = .ok (.invokevirtual 98, 3) := by decide +kernel
theorem dL_law_809 : decode cL_law 809 = .ok (.if_icmp .eq 565, 3) := by decide +kernel
theorem dL_law_812 : decode cL_law 812 = .ok (.iconst 0, 1) := by decide +kernel
theorem dL_law_813 : decode cL_law 813 = .ok (.ireturn, 1) := by decide +kernel
theorem dL_law_814 : decode cL_law 814 = .ok (.aload_n 1, 1) := by decide +kernel
theorem dL_law_815 : decode cL_law 815 = .ok (.aload_n 0, 1) := by decide +kernel
theorem dL_law_816 : decode cL_law 816 = .ok (.iload_n 3, 1) := by decide +kernel
theorem dL_law_817 : decode cL_law 817 = .ok (.iconst 1, 1) := by decide +kernel
theorem dL_law_818 : decode cL_law 818 = .ok (.iadd, 1) := by decide +kernel
theorem dL_law_819 : decode cL_law 819 = .ok (.iaload, 1) := by decide +kernel
theorem dL_law_820 : decode cL_law 820 = .ok (.invokevirtual 99, 3) := by decide +kernel
theorem dL_law_823 : decode cL_law 823 = .ok (.aload_n 2, 1) := by decide +kernel
theorem dL_law_824 : decode cL_law 824 = .ok (.aload_n 0, 1) := by decide +kernel
theorem dL_law_825 : decode cL_law 825 = .ok (.iload_n 3, 1) := by decide +kernel
theorem dL_law_826 : decode cL_law 826 = .ok (.iconst 1, 1) := by decide +kernel
theorem dL_law_827 : decode cL_law 827 = .ok (.iadd, 1) := by decide +kernel
theorem dL_law_828 : decode cL_law 828 = .ok (.iaload, 1) := by decide +kernel
theorem dL_law_829 : decode cL_law 829 = .ok (.invokevirtual 102, 3) := by decide +kernel
theorem dL_law_832 : decode cL_law 832 = .ok (.if_icmp .eq 542, 3) := by decide +kernel
theorem dL_law_835 : decode cL_law 835 = .ok (.iconst 0, 1) := by decide +kernel
theorem dL_law_836 : decode cL_law 836 = .ok (.ireturn, 1) := by decide +kernel
theorem dL_law_837 : decode cL_law 837 = .ok (.aload_n 1, 1) := by decide +kernel
theorem dL_law_838 : decode cL_law 838 = .ok (.aload_n 0, 1) := by decide +kernel
theorem dL_law_839 : decode cL_law 839 = .ok (.iload_n 3, 1) := by decide +kernel
theorem dL_law_840 : decode cL_law 840 = .ok (.iconst 1, 1) := by decide +kernel
theorem dL_law_841 : decode cL_law 841 = .ok (.iadd, 1) := by decide +kernel
theorem dL_law_842 : decode cL_law 842 = .ok (.iaload, 1) := by decide +kernel
theorem dL_law_843 : decode cL_law 843 = .ok (.invokevirtual 103, 3) := by decide +kernel
theorem dL_law_846 : decode cL_law 846 = .ok (.aload_n 2, 1) := by decide +kernel
theorem dL_law_847 : decode cL_law 847 = .ok (.aload_n 0, 1) := by decide +kernel
theorem dL_law_848 : decode cL_law 848 = .ok (.iload_n 3, 1) := by decide +kernel
theorem dL_law_849 : decode cL_law 849 = .ok (.iconst 1, 1) := by decide +kernel
theorem dL_law_850 : decode cL_law 850 = .ok (.iadd, 1) := by decide +kernel
theorem dL_law_851 : decode cL_law 851 = .ok (.iaload, 1) := by decide +kernel
theorem dL_law_852 : decode cL_law 852 = .ok (.invokevirtual 107, 3) := by decide +kernel
theorem dL_law_855 : decode cL_law 855 = .ok (.lcmp, 1) := by decide +kernel
theorem dL_law_856 : decode cL_law 856 = .ok (.ifCond .eq 518, 3) := by decide +kernel
theorem dL_law_859 : decode cL_law 859 = .ok (.iconst 0, 1) := by decide +kernel
theorem dL_law_860 : decode cL_law 860 = .ok (.ireturn, 1) := by decide +kernel
theorem dL_law_861 : decode cL_law 861 = .ok (.aload_n 1, 1) := by decide +kernel
theorem dL_law_862 : decode cL_law 862 = .ok (.aload_n 0, 1) := by decide +kernel
theorem dL_law_863 : decode cL_law 863 = .ok (.iload_n 3, 1) := by decide +kernel
theorem dL_law_864 : decode cL_law 864 = .ok (.iconst 1, 1) := by decide +kernel
theorem dL_law_865 : decode cL_law 865 = .ok (.iadd, 1) := by decide +kernel
theorem dL_law_866 : decode cL_law 866 = .ok (.iaload, 1) := by decide +kernel
theorem dL_law_867 : decode cL_law 867 = .ok (.aload_n 0, 1) := by decide +kernel
theorem dL_law_868 : decode cL_law 868 = .ok (.iload_n 3, 1) := by decide +kernel
theorem dL_law_869 : decode cL_law 869 = .ok (.iconst 2, 1) := by decide +kernel
theorem dL_law_870 : decode cL_law 870 = .ok (.iadd, 1) := by decide +kernel
theorem dL_law_871 : decode cL_law 871 = .ok (.iaload, 1) := by decide +kernel
theorem dL_law_872 : decode cL_law 872 = .ok (.aload_n 0, 1) := by decide +kernel
theorem dL_law_873 : decode cL_law 873 = .ok (.iload_n 3, 1) := by decide +kernel
theorem dL_law_874 : decode cL_law 874 = .ok (.iconst 3, 1) := by decide +kernel
theorem dL_law_875 : decode cL_law 875 = .ok (.iadd, 1) := by decide +kernel
theorem dL_law_876 : decode cL_law 876 = .ok (.iaload, 1) := by decide +kernel
theorem dL_law_877 : decode cL_law 877 = .ok (.aload_n 0, 1) := by decide +kernel
theorem dL_law_878 : decode cL_law 878 = .ok (.iload_n 3, 1) := by decide +kernel
theorem dL_law_879 : decode cL_law 879 = .ok (.iconst 4, 1) := by decide +kernel
theorem dL_law_880 : decode cL_law 880 = .ok (.iadd, 1) := by decide +kernel
theorem dL_law_881 : decode cL_law 881 = .ok (.iaload, 1) := by decide +kernel
theorem dL_law_882 : decode cL_law 882 = .ok (.aload_n 0, 1) := by decide +kernel
theorem dL_law_883 : decode cL_law 883 = .ok (.iload_n 3, 1) := by decide +kernel
theorem dL_law_884 : decode cL_law 884 = .ok (.iconst 5, 1) := by decide +kernel
theorem dL_law_885 : decode cL_law 885 = .ok (.iadd, 1) := by decide +kernel
theorem dL_law_886 : decode cL_law 886 = .ok (.iaload, 1) := by decide +kernel
theorem dL_law_887 : decode cL_law 887 = .ok (.invokevirtual 108, 3) := by decide +kernel
theorem dL_law_890 : decode cL_law 890 = .ok (.aload_n 2, 1) := by decide +kernel
theorem dL_law_891 : decode cL_law 891 = .ok (.aload_n 0, 1) := by decide +kernel
theorem dL_law_892 : decode cL_law 892 = .ok (.iload_n 3, 1) := by decide +kernel
theorem dL_law_893 : decode cL_law 893 = .ok (.iconst 1, 1) := by decide +kernel
theorem dL_law_894 : decode cL_law 894 = .ok (.iadd, 1) := by decide +kernel
theorem dL_law_895 : decode cL_law 895 = .ok (.iaload, 1) := by decide +kernel
theorem dL_law_896 : decode cL_law 896 = .ok (.aload_n 0, 1) := by decide +kernel
theorem dL_law_897 : decode cL_law 897 = .ok (.iload_n 3, 1) := by decide +kernel
theorem dL_law_898 : decode cL_law 898 = .ok (.iconst 2, 1) := by decide +kernel
theorem dL_law_899 : decode cL_law 899 = .ok (.iadd, 1) := by decide +kernel
theorem dL_law_900 : decode cL_law 900 = .ok (.iaload, 1) := by decide +kernel
theorem dL_law_901 : decode cL_law 901 = .ok (.aload_n 0, 1) := by decide +kernel
theorem dL_law_902 : decode cL_law 902 = .ok (.iload_n 3, 1) := by decide +kernel
theorem dL_law_903 : decode cL_law 903 = .ok (.iconst 3, 1) := by decide +kernel
theorem dL_law_904 : decode cL_law 904 = .ok (.iadd, 1) := by decide +kernel
theorem dL_law_905 : decode cL_law 905 = .ok (.iaload, 1) := by decide +kernel
theorem dL_law_906 : decode cL_law 906 = .ok (.aload_n 0, 1) := by decide +kernel
theorem dL_law_907 : decode cL_law 907 = .ok (.iload_n 3, 1) := by decide +kernel
theorem dL_law_908 : decode cL_law 908 = .ok (.iconst 4, 1) := by decide +kernel
theorem dL_law_909 : decode cL_law 909 = .ok (.iadd, 1) := by decide +kernel
theorem dL_law_910 : decode cL_law 910 = .ok (.iaload, 1) := by decide +kernel
theorem dL_law_911 : decode cL_law 911 = .ok (.aload_n 0, 1) := by decide +kernel
theorem dL_law_912 : decode cL_law 912 = .ok (.iload_n 3, 1) := by decide +kernel
theorem dL_law_913 : decode cL_law 913 = .ok (.iconst 5, 1) := by decide +kernel
theorem dL_law_914 : decode cL_law 914 = .ok (.iadd, 1) := by decide +kernel
theorem dL_law_915 : decode cL_law 915 = .ok (.iaload, 1) := by decide +kernel
theorem dL_law_916 : decode cL_law 916 = .ok (.invokevirtual 112, 3) := by decide +kernel
theorem dL_law_919 : decode cL_law 919 = .ok (.lcmp, 1) := by decide +kernel
theorem dL_law_920 : decode cL_law 920 = .ok (.ifCond .eq 454, 3) := by decide +kernel
theorem dL_law_923 : decode cL_law 923 = .ok (.iconst 0, 1) := by decide +kernel
theorem dL_law_924 : decode cL_law 924 = .ok (.ireturn, 1) := by decide +kernel
theorem dL_law_925 : decode cL_law 925 = .ok (.aload_n 1, 1) := by decide +kernel
theorem dL_law_926 : decode cL_law 926 = .ok (.aload_n 0, 1) := by decide +kernel
theorem dL_law_927 : decode cL_law 927 = .ok (.iload_n 3, 1) := by decide +kernel
theorem dL_law_928 : decode cL_law 928 = .ok (.iconst 1, 1) := by decide +kernel
theorem dL_law_929 : decode cL_law 929 = .ok (.iadd, 1) := by decide +kernel
theorem dL_law_930 : decode cL_law 930 = .ok (.iaload, 1) := by decide +kernel
theorem dL_law_931 : decode cL_law 931 = .ok (.aload_n 0, 1) := by decide +kernel
theorem dL_law_932 : decode cL_law 932 = .ok (.iload_n 3, 1) := by decide +kernel
theorem dL_law_933 : decode cL_law 933 = .ok (.iconst 2, 1) := by decide +kernel
theorem dL_law_934 : decode cL_law 934 = .ok (.iadd, 1) := by decide +kernel
theorem dL_law_935 : decode cL_law 935 = .ok (.iaload, 1) := by decide +kernel
theorem dL_law_936 : decode cL_law 936 = .ok (.aload_n 0, 1) := by decide +kernel
theorem dL_law_937 : decode cL_law 937 = .ok (.iload_n 3, 1) := by decide +kernel
theorem dL_law_938 : decode cL_law 938 = .ok (.iconst 3, 1) := by decide +kernel
theorem dL_law_939 : decode cL_law 939 = .ok (.iadd, 1) := by decide +kernel
theorem dL_law_940 : decode cL_law 940 = .ok (.iaload, 1) := by decide +kernel
theorem dL_law_941 : decode cL_law 941 = .ok (.aload_n 0, 1) := by decide +kernel
theorem dL_law_942 : decode cL_law 942 = .ok (.iload_n 3, 1) := by decide +kernel
theorem dL_law_943 : decode cL_law 943 = .ok (.iconst 4, 1) := by decide +kernel
theorem dL_law_944 : decode cL_law 944 = .ok (.iadd, 1) := by decide +kernel
theorem dL_law_945 : decode cL_law 945 = .ok (.iaload, 1) := by decide +kernel
theorem dL_law_946 : decode cL_law 946 = .ok (.invokevirtual 113, 3) := by decide +kernel
theorem dL_law_949 : decode cL_law 949 = .ok (.aload_n 2, 1) := by decide +kernel
theorem dL_law_950 : decode cL_law 950 = .ok (.aload_n 0, 1) := by decide +kernel
theorem dL_law_951 : decode cL_law 951 = .ok (.iload_n 3, 1) := by decide +kernel
theorem dL_law_952 : decode cL_law 952 = .ok (.iconst 1, 1) := by decide +kernel
theorem dL_law_953 : decode cL_law 953 = .ok (.iadd, 1) := by decide +kernel
theorem dL_law_954 : decode cL_law 954 = .ok (.iaload, 1) := by decide +kernel
theorem dL_law_955 : decode cL_law 955 = .ok (.aload_n 0, 1) := by decide +kernel
theorem dL_law_956 : decode cL_law 956 = .ok (.iload_n 3, 1) := by decide +kernel
theorem dL_law_957 : decode cL_law 957 = .ok (.iconst 2, 1) := by decide +kernel
theorem dL_law_958 : decode cL_law 958 = .ok (.iadd, 1) := by decide +kernel
theorem dL_law_959 : decode cL_law 959 = .ok (.iaload, 1) := by decide +kernel
theorem dL_law_960 : decode cL_law 960 = .ok (.aload_n 0, 1) := by decide +kernel
theorem dL_law_961 : decode cL_law 961 = .ok (.iload_n 3, 1) := by decide +kernel
theorem dL_law_962 : decode cL_law 962 = .ok (.iconst 3, 1) := by decide +kernel
theorem dL_law_963 : decode cL_law 963 = .ok (.iadd, 1) := by decide +kernel
theorem dL_law_964 : decode cL_law 964 = .ok (.iaload, 1) := by decide +kernel
theorem dL_law_965 : decode cL_law 965 = .ok (.aload_n 0, 1) := by decide +kernel
theorem dL_law_966 : decode cL_law 966 = .ok (.iload_n 3, 1) := by decide +kernel
theorem dL_law_967 : decode cL_law 967 = .ok (.iconst 4, 1) := by decide +kernel
theorem dL_law_968 : decode cL_law 968 = .ok (.iadd, 1) := by decide +kernel
theorem dL_law_969 : decode cL_law 969 = .ok (.iaload, 1) := by decide +kernel
theorem dL_law_970 : decode cL_law 970 = .ok (.invokevirtual 117, 3) := by decide +kernel
theorem dL_law_973 : decode cL_law 973 = .ok (.lcmp, 1) := by decide +kernel
theorem dL_law_974 : decode cL_law 974 = .ok (.ifCond .eq 400, 3) := by decide +kernel
theorem dL_law_977 : decode cL_law 977 = .ok (.iconst 0, 1) := by decide +kernel
theorem dL_law_978 : decode cL_law 978 = .ok (.ireturn, 1) := by decide +kernel
theorem dL_law_979 : decode cL_law 979 = .ok (.aload_n 1, 1) := by decide +kernel
theorem dL_law_980 : decode cL_law 980 = .ok (.aload_n 0, 1) := by decide +kernel
theorem dL_law_981 : decode cL_law 981 = .ok (.iload_n 3, 1) := by decide +kernel
theorem dL_law_982 : decode cL_law 982 = .ok (.iconst 1, 1) := by decide +kernel
theorem dL_law_983 : decode cL_law 983 = .ok (.iadd, 1) := by decide +kernel
theorem dL_law_984 : decode cL_law 984 = .ok (.iaload, 1) := by decide +kernel
theorem dL_law_985 : decode cL_law 985 = .ok (.invokevirtual 118, 3) := by decide +kernel
theorem dL_law_988 : decode cL_law 988 = .ok (.aload_n 2, 1) := by decide +kernel
theorem dL_law_989 : decode cL_law 989 = .ok (.aload_n 0, 1) := by decide +kernel
theorem dL_law_990 : decode cL_law 990 = .ok (.iload_n 3, 1) := by decide +kernel
theorem dL_law_991 : decode cL_law 991 = .ok (.iconst 1, 1) := by decide +kernel
theorem dL_law_992 : decode cL_law 992 = .ok (.iadd, 1) := by decide +kernel
theorem dL_law_993 : decode cL_law 993 = .ok (.iaload, 1) := by decide +kernel
theorem dL_law_994 : decode cL_law 994 = .ok (.invokevirtual 121, 3) := by decide +kernel
theorem dL_law_997 : decode cL_law 997 = .ok (.if_icmp .eq 377, 3) := by decide +kernel
theorem dL_law_1000 : decode cL_law 1000 = .ok (.iconst 0, 1) := by decide +kernel
theorem dL_law_1001 : decode cL_law 1001 = .ok (.ireturn, 1) := by decide +kernel
theorem dL_law_1002 : decode cL_law 1002 = .ok (.aload_n 1, 1) := by decide +kernel
theorem dL_law_1003 : decode cL_law 1003 = .ok (.aload_n 0, 1) := by decide +kernel
theorem dL_law_1004 : decode cL_law 1004 = .ok (.iload_n 3, 1) := by decide +kernel
theorem dL_law_1005 : decode cL_law 1005 = .ok (.iconst 1, 1) := by decide +kernel
theorem dL_law_1006 : decode cL_law 1006 = .ok (.iadd, 1) := by decide +kernel
theorem dL_law_1007 : decode cL_law 1007 = .ok (.iaload, 1) := by decide +kernel
theorem dL_law_1008 : decode cL_law 1008 = .ok (.invokevirtual 122, 3) := by decide +kernel
theorem dL_law_1011 : decode cL_law 1011 = .ok (.aload_n 2, 1) := by decide +kernel
theorem dL_law_1012 : decode cL_law 1012 = .ok (.aload_n 0, 1) := by decide +kernel
theorem dL_law_1013 : decode cL_law 1013 = .ok (.iload_n 3, 1) := by decide +kernel
theorem dL_law_1014 : decode cL_law 1014 = .ok (.iconst 1, 1) := by decide +kernel
theorem dL_law_1015 : decode cL_law 1015 = .ok (.iadd, 1) := by decide +kernel
theorem dL_law_1016 : decode cL_law 1016 = .ok (.iaload, 1) := by decide +kernel
theorem dL_law_1017 : decode cL_law 1017 = .ok (.invokevirtual 125, 3) := by decide +kernel
theorem dL_law_1020 : decode cL_law 1020 = .ok (.if_icmp .eq 354, 3) := by decide +kernel
theorem dL_law_1023 : decode cL_law 1023 = .ok (.iconst 0, 1) := by decide +kernel
theorem dL_law_1024 : decode cL_law 1024 = .ok (.ireturn, 1) := by decide +kernel
theorem dL_law_1025 : decode cL_law 1025 = .ok (.aload_n 1, 1) := by decide +kernel
theorem dL_law_1026 : decode cL_law 1026 = .ok (.invokevirtual 126, 3) := by decide +kernel
theorem dL_law_1029 : decode cL_law 1029 = .ok (.aload_n 2, 1) := by decide +kernel
theorem dL_law_1030 : decode cL_law 1030 = .ok (.invokevirtual 129, 3) := by decide +kernel
theorem dL_law_1033 : decode cL_law 1033 = .ok (.if_icmp .eq 341, 3) := by decide +kernel
theorem dL_law_1036 : decode cL_law 1036 = .ok (.iconst 0, 1) := by decide +kernel
theorem dL_law_1037 : decode cL_law 1037 = .ok (.ireturn, 1) := by decide +kernel
theorem dL_law_1038 : decode cL_law 1038 = .ok (.aload_n 1, 1) := by decide +kernel
theorem dL_law_1039 : decode cL_law 1039 = .ok (.invokevirtual 130, 3) := by decide +kernel
theorem dL_law_1042 : decode cL_law 1042 = .ok (.aload_n 2, 1) := by decide +kernel
theorem dL_law_1043 : decode cL_law 1043 = .ok (.invokevirtual 133, 3) := by decide +kernel
theorem dL_law_1046 : decode cL_law 1046 = .ok (.if_icmp .eq 328, 3) := by decide +kernel
theorem dL_law_1049 : decode cL_law 1049 = .ok (.iconst 0, 1) := by decide +kernel
theorem dL_law_1050 : decode cL_law 1050 = .ok (.ireturn, 1) := by decide +kernel
theorem dL_law_1051 : decode cL_law 1051 = .ok (.aload_n 1, 1) := by decide +kernel
theorem dL_law_1052 : decode cL_law 1052 = .ok (.invokevirtual 134, 3) := by decide +kernel
theorem dL_law_1055 : decode cL_law 1055 = .ok (.aload_n 2, 1) := by decide +kernel
theorem dL_law_1056 : decode cL_law 1056 = .ok (.invokevirtual 138, 3) := by decide +kernel
theorem dL_law_1059 : decode cL_law 1059 = .ok (.lcmp, 1) := by decide +kernel
theorem dL_law_1060 : decode cL_law 1060 = .ok (.ifCond .eq 314, 3) := by decide +kernel
theorem dL_law_1063 : decode cL_law 1063 = .ok (.iconst 0, 1) := by decide +kernel
theorem dL_law_1064 : decode cL_law 1064 = .ok (.ireturn, 1) := by decide +kernel
theorem dL_law_1065 : decode cL_law 1065 = .ok (.aload_n 1, 1) := by decide +kernel
theorem dL_law_1066 : decode cL_law 1066 = .ok (.aload_n 0, 1) := by decide +kernel
theorem dL_law_1067 : decode cL_law 1067 = .ok (.iload_n 3, 1) := by decide +kernel
theorem dL_law_1068 : decode cL_law 1068 = .ok (.iconst 1, 1) := by decide +kernel
theorem dL_law_1069 : decode cL_law 1069 = .ok (.iadd, 1) := by decide +kernel
theorem dL_law_1070 : decode cL_law 1070 = .ok (.iaload, 1) := by decide +kernel
theorem dL_law_1071 : decode cL_law 1071 = .ok (.invokevirtual 139, 3) := by decide +kernel
theorem dL_law_1074 : decode cL_law 1074 = .ok (.aload_n 2, 1) := by decide +kernel
theorem dL_law_1075 : decode cL_law 1075 = .ok (.aload_n 0, 1) := by decide +kernel
theorem dL_law_1076 : decode cL_law 1076 = .ok (.iload_n 3, 1) := by decide +kernel
theorem dL_law_1077 : decode cL_law 1077 = .ok (.iconst 1, 1) := by decide +kernel
theorem dL_law_1078 : decode cL_law 1078 = .ok (.iadd, 1) := by decide +kernel
theorem dL_law_1079 : decode cL_law 1079 = .ok (.iaload, 1) := by decide +kernel
theorem dL_law_1080 : decode cL_law 1080 = .ok (.invokevirtual 142, 3) := by decide +kernel
theorem dL_law_1083 : decode cL_law 1083 = .ok (.if_icmp .eq 291, 3) := by decide +kernel
theorem dL_law_1086 : decode cL_law 1086 = .ok (.iconst 0, 1) := by decide +kernel
theorem dL_law_1087 : decode cL_law 1087 = .ok (.ireturn, 1) := by decide +kernel
theorem dL_law_1088 : decode cL_law 1088 = .ok (.aload_n 1, 1) := by decide +kernel
theorem dL_law_1089 : decode cL_law 1089 = .ok (.aload_n 0, 1) := by decide +kernel
theorem dL_law_1090 : decode cL_law 1090 = .ok (.iload_n 3, 1) := by decide +kernel
theorem dL_law_1091 : decode cL_law 1091 = .ok (.iconst 1, 1) := by decide +kernel
theorem dL_law_1092 : decode cL_law 1092 = .ok (.iadd, 1) := by decide +kernel
theorem dL_law_1093 : decode cL_law 1093 = .ok (.iaload, 1) := by decide +kernel
theorem dL_law_1094 : decode cL_law 1094 = .ok (.invokevirtual 143, 3) := by decide +kernel
theorem dL_law_1097 : decode cL_law 1097 = .ok (.aload_n 2, 1) := by decide +kernel
theorem dL_law_1098 : decode cL_law 1098 = .ok (.aload_n 0, 1) := by decide +kernel
theorem dL_law_1099 : decode cL_law 1099 = .ok (.iload_n 3, 1) := by decide +kernel
theorem dL_law_1100 : decode cL_law 1100 = .ok (.iconst 1, 1) := by decide +kernel
theorem dL_law_1101 : decode cL_law 1101 = .ok (.iadd, 1) := by decide +kernel
theorem dL_law_1102 : decode cL_law 1102 = .ok (.iaload, 1) := by decide +kernel
theorem dL_law_1103 : decode cL_law 1103 = .ok (.invokevirtual 146, 3) := by decide +kernel
theorem dL_law_1106 : decode cL_law 1106 = .ok (.lcmp, 1) := by decide +kernel
theorem dL_law_1107 : decode cL_law 1107 = .ok (.ifCond .eq 267, 3) := by decide +kernel
theorem dL_law_1110 : decode cL_law 1110 = .ok (.iconst 0, 1) := by decide +kernel
theorem dL_law_1111 : decode cL_law 1111 = .ok (.ireturn, 1) := by decide +kernel
theorem dL_law_1112 : decode cL_law 1112 = .ok (.aload_n 1, 1) := by decide +kernel
theorem dL_law_1113 : decode cL_law 1113 = .ok (.aload_n 0, 1) := by decide +kernel
theorem dL_law_1114 : decode cL_law 1114 = .ok (.iload_n 3, 1) := by decide +kernel
theorem dL_law_1115 : decode cL_law 1115 = .ok (.iconst 1, 1) := by decide +kernel
theorem dL_law_1116 : decode cL_law 1116 = .ok (.iadd, 1) := by decide +kernel
theorem dL_law_1117 : decode cL_law 1117 = .ok (.iaload, 1) := by decide +kernel
theorem dL_law_1118 : decode cL_law 1118 = .ok (.aload_n 0, 1) := by decide +kernel
theorem dL_law_1119 : decode cL_law 1119 = .ok (.iload_n 3, 1) := by decide +kernel
theorem dL_law_1120 : decode cL_law 1120 = .ok (.iconst 2, 1) := by decide +kernel
theorem dL_law_1121 : decode cL_law 1121 = .ok (.iadd, 1) := by decide +kernel
theorem dL_law_1122 : decode cL_law 1122 = .ok (.iaload, 1) := by decide +kernel
theorem dL_law_1123 : decode cL_law 1123 = .ok (.aload_n 0, 1) := by decide +kernel
theorem dL_law_1124 : decode cL_law 1124 = .ok (.iload_n 3, 1) := by decide +kernel
theorem dL_law_1125 : decode cL_law 1125 = .ok (.iconst 3, 1) := by decide +kernel
theorem dL_law_1126 : decode cL_law 1126 = .ok (.iadd, 1) := by decide +kernel
theorem dL_law_1127 : decode cL_law 1127 = .ok (.iaload, 1) := by decide +kernel
theorem dL_law_1128 : decode cL_law 1128 = .ok (.invokevirtual 147, 3) := by decide +kernel
theorem dL_law_1131 : decode cL_law 1131 = .ok (.aload_n 2, 1) := by decide +kernel
theorem dL_law_1132 : decode cL_law 1132 = .ok (.aload_n 0, 1) := by decide +kernel
theorem dL_law_1133 : decode cL_law 1133 = .ok (.iload_n 3, 1) := by decide +kernel
theorem dL_law_1134 : decode cL_law 1134 = .ok (.iconst 1, 1) := by decide +kernel
theorem dL_law_1135 : decode cL_law 1135 = .ok (.iadd, 1) := by decide +kernel
theorem dL_law_1136 : decode cL_law 1136 = .ok (.iaload, 1) := by decide +kernel
theorem dL_law_1137 : decode cL_law 1137 = .ok (.aload_n 0, 1) := by decide +kernel
theorem dL_law_1138 : decode cL_law 1138 = .ok (.iload_n 3, 1) := by decide +kernel
theorem dL_law_1139 : decode cL_law 1139 = .ok (.iconst 2, 1) := by decide +kernel
theorem dL_law_1140 : decode cL_law 1140 = .ok (.iadd, 1) := by decide +kernel
theorem dL_law_1141 : decode cL_law 1141 = .ok (.iaload, 1) := by decide +kernel
theorem dL_law_1142 : decode cL_law 1142 = .ok (.aload_n 0, 1) := by decide +kernel
theorem dL_law_1143 : decode cL_law 1143 = .ok (.iload_n 3, 1) := by decide +kernel
theorem dL_law_1144 : decode cL_law 1144 = .ok (.iconst 3, 1) := by decide +kernel
theorem dL_law_1145 : decode cL_law 1145 = .ok (.iadd, 1) := by decide +kernel
theorem dL_law_1146 : decode cL_law 1146 = .ok (.iaload, 1) := by decide +kernel
theorem dL_law_1147 : decode cL_law 1147 = .ok (.invokevirtual 150, 3) := by decide +kernel
theorem dL_law_1150 : decode cL_law 1150 = .ok (.if_icmp .eq 224, 3) := by decide +kernel
theorem dL_law_1153 : decode cL_law 1153 = .ok (.iconst 0, 1) := by decide +kernel
theorem dL_law_1154 : decode cL_law 1154 = .ok (.ireturn, 1) := by decide +kernel
theorem dL_law_1155 : decode cL_law 1155 = .ok (.aload_n 1, 1) := by decide +kernel
theorem dL_law_1156 : decode cL_law 1156 = .ok (.aload_n 0, 1) := by decide +kernel
theorem dL_law_1157 : decode cL_law 1157 = .ok (.iload_n 3, 1) := by decide +kernel
theorem dL_law_1158 : decode cL_law 1158 = .ok (.iconst 1, 1) := by decide +kernel
theorem dL_law_1159 : decode cL_law 1159 = .ok (.iadd, 1) := by decide +kernel
theorem dL_law_1160 : decode cL_law 1160 = .ok (.iaload, 1) := by decide +kernel
theorem dL_law_1161 : decode cL_law 1161 = .ok (.aload_n 0, 1) := by decide +kernel
theorem dL_law_1162 : decode cL_law 1162 = .ok (.iload_n 3, 1) := by decide +kernel
theorem dL_law_1163 : decode cL_law 1163 = .ok (.iconst 2, 1) := by decide +kernel
theorem dL_law_1164 : decode cL_law 1164 = .ok (.iadd, 1) := by decide +kernel
theorem dL_law_1165 : decode cL_law 1165 = .ok (.iaload, 1) := by decide +kernel
theorem dL_law_1166 : decode cL_law 1166 = .ok (.aload_n 0, 1) := by decide +kernel
theorem dL_law_1167 : decode cL_law 1167 = .ok (.iload_n 3, 1) := by decide +kernel
theorem dL_law_1168 : decode cL_law 1168 = .ok (.iconst 3, 1) := by decide +kernel
theorem dL_law_1169 : decode cL_law 1169 = .ok (.iadd, 1) := by decide +kernel
theorem dL_law_1170 : decode cL_law 1170 = .ok (.iaload, 1) := by decide +kernel
theorem dL_law_1171 : decode cL_law 1171 = .ok (.i2l, 1) := by decide +kernel
theorem dL_law_1172 : decode cL_law 1172 = .ok (.bipush 32, 2) := by decide +kernel
theorem dL_law_1174 : decode cL_law 1174 = .ok (.lshl, 1) := by decide +kernel
theorem dL_law_1175 : decode cL_law 1175 = .ok (.aload_n 0, 1) := by decide +kernel
theorem dL_law_1176 : decode cL_law 1176 = .ok (.iload_n 3, 1) := by decide +kernel
theorem dL_law_1177 : decode cL_law 1177 = .ok (.iconst 4, 1) := by decide +kernel
theorem dL_law_1178 : decode cL_law 1178 = .ok (.iadd, 1) := by decide +kernel
theorem dL_law_1179 : decode cL_law 1179 = .ok (.iaload, 1) := by decide +kernel
theorem dL_law_1180 : decode cL_law 1180 = .ok (.i2l, 1) := by decide +kernel
theorem dL_law_1181 : decode cL_law 1181 = .ok (.ldc2_w 151, 3) := by decide +kernel
theorem dL_law_1184 : decode cL_law 1184 = .ok (.land, 1) := by decide +kernel
theorem dL_law_1185 : decode cL_law 1185 = .ok (.lor, 1) := by decide +kernel
theorem dL_law_1186 : decode cL_law 1186 = .ok (.invokevirtual 153, 3) := by decide +kernel
theorem dL_law_1189 : decode cL_law 1189 = .ok (.aload_n 2, 1) := by decide +kernel
theorem dL_law_1190 : decode cL_law 1190 = .ok (.aload_n 0, 1) := by decide +kernel
theorem dL_law_1191 : decode cL_law 1191 = .ok (.iload_n 3, 1) := by decide +kernel
theorem dL_law_1192 : decode cL_law 1192 = .ok (.iconst 1, 1) := by decide +kernel
theorem dL_law_1193 : decode cL_law 1193 = .ok (.iadd, 1) := by decide +kernel
theorem dL_law_1194 : decode cL_law 1194 = .ok (.iaload, 1) := by decide +kernel
theorem dL_law_1195 : decode cL_law 1195 = .ok (.aload_n 0, 1) := by decide +kernel
theorem dL_law_1196 : decode cL_law 1196 = .ok (.iload_n 3, 1) := by decide +kernel
theorem dL_law_1197 : decode cL_law 1197 = .ok (.iconst 2, 1) := by decide +kernel
theorem dL_law_1198 : decode cL_law 1198 = .ok (.iadd, 1) := by decide +kernel
theorem dL_law_1199 : decode cL_law 1199 = .ok (.iaload, 1) := by decide +kernel
theorem dL_law_1200 : decode cL_law 1200 = .ok (.aload_n 0, 1) := by decide +kernel
theorem dL_law_1201 : decode cL_law 1201 = .ok (.iload_n 3, 1) := by decide +kernel
theorem dL_law_1202 : decode cL_law 1202 = .ok (.iconst 3, 1) := by decide +kernel
theorem dL_law_1203 : decode cL_law 1203 = .ok (.iadd, 1) := by decide +kernel
theorem dL_law_1204 : decode cL_law 1204 = .ok (.iaload, 1) := by decide +kernel
theorem dL_law_1205 : decode cL_law 1205 = .ok (.i2l, 1) := by decide +kernel
theorem dL_law_1206 : decode cL_law 1206 = .ok (.bipush 32, 2) := by decide +kernel
theorem dL_law_1208 : decode cL_law 1208 = .ok (.lshl, 1) := by decide +kernel
theorem dL_law_1209 : decode cL_law 1209 = .ok (.aload_n 0, 1) := by decide +kernel
theorem dL_law_1210 : decode cL_law 1210 = .ok (.iload_n 3, 1) := by decide +kernel
theorem dL_law_1211 : decode cL_law 1211 = .ok (.iconst 4, 1) := by decide +kernel
theorem dL_law_1212 : decode cL_law 1212 = .ok (.iadd, 1) := by decide +kernel
theorem dL_law_1213 : decode cL_law 1213 = .ok (.iaload, 1) := by decide +kernel
theorem dL_law_1214 : decode cL_law 1214 = .ok (.i2l, 1) := by decide +kernel
theorem dL_law_1215 : decode cL_law 1215 = .ok (.ldc2_w 151, 3) := by decide +kernel
theorem dL_law_1218 : decode cL_law 1218 = .ok (.land, 1) := by decide +kernel
theorem dL_law_1219 : decode cL_law 1219 = .ok (.lor, 1) := by decide +kernel
theorem dL_law_1220 : decode cL_law 1220 = .ok (.invokevirtual 157, 3) := by decide +kernel
theorem dL_law_1223 : decode cL_law 1223 = .ok (.if_icmp .eq 151, 3) := by decide +kernel
theorem dL_law_1226 : decode cL_law 1226 = .ok (.iconst 0, 1) := by decide +kernel
theorem dL_law_1227 : decode cL_law 1227 = .ok (.ireturn, 1) := by decide +kernel
theorem dL_law_1228 : decode cL_law 1228 = .ok (.aload_n 1, 1) := by decide +kernel
theorem dL_law_1229 : decode cL_law 1229 = .ok (.aload_n 0, 1) := by decide +kernel
theorem dL_law_1230 : decode cL_law 1230 = .ok (.iload_n 3, 1) := by decide +kernel
theorem dL_law_1231 : decode cL_law 1231 = .ok (.iconst 1, 1) := by decide +kernel
theorem dL_law_1232 : decode cL_law 1232 = .ok (.iadd, 1) := by decide +kernel
theorem dL_law_1233 : decode cL_law 1233 = .ok (.iaload, 1) := by decide +kernel
theorem dL_law_1234 : decode cL_law 1234 = .ok (.aload_n 0, 1) := by decide +kernel
theorem dL_law_1235 : decode cL_law 1235 = .ok (.iload_n 3, 1) := by decide +kernel
theorem dL_law_1236 : decode cL_law 1236 = .ok (.iconst 2, 1) := by decide +kernel
theorem dL_law_1237 : decode cL_law 1237 = .ok (.iadd, 1) := by decide +kernel
theorem dL_law_1238 : decode cL_law 1238 = .ok (.iaload, 1) := by decide +kernel
theorem dL_law_1239 : decode cL_law 1239 = .ok (.invokevirtual 158, 3) := by decide +kernel
theorem dL_law_1242 : decode cL_law 1242 = .ok (.aload_n 2, 1) := by decide +kernel
theorem dL_law_1243 : decode cL_law 1243 = .ok (.aload_n 0, 1) := by decide +kernel
theorem dL_law_1244 : decode cL_law 1244 = .ok (.iload_n 3, 1) := by decide +kernel
theorem dL_law_1245 : decode cL_law 1245 = .ok (.iconst 1, 1) := by decide +kernel
theorem dL_law_1246 : decode cL_law 1246 = .ok (.iadd, 1) := by decide +kernel
theorem dL_law_1247 : decode cL_law 1247 = .ok (.iaload, 1) := by decide +kernel
theorem dL_law_1248 : decode cL_law 1248 = .ok (.aload_n 0, 1) := by decide +kernel
theorem dL_law_1249 : decode cL_law 1249 = .ok (.iload_n 3, 1) := by decide +kernel
theorem dL_law_1250 : decode cL_law 1250 = .ok (.iconst 2, 1) := by decide +kernel
theorem dL_law_1251 : decode cL_law 1251 = .ok (.iadd, 1) := by decide +kernel
theorem dL_law_1252 : decode cL_law 1252 = .ok (.iaload, 1) := by decide +kernel
theorem dL_law_1253 : decode cL_law 1253 = .ok (.invokevirtual 161, 3) := by decide +kernel
theorem dL_law_1256 : decode cL_law 1256 = .ok (.lcmp, 1) := by decide +kernel
theorem dL_law_1257 : decode cL_law 1257 = .ok (.ifCond .eq 117, 3) := by decide +kernel
theorem dL_law_1260 : decode cL_law 1260 = .ok (.iconst 0, 1) := by decide +kernel
theorem dL_law_1261 : decode cL_law 1261 = .ok (.ireturn, 1) := by decide +kernel
theorem dL_law_1262 : decode cL_law 1262 = .ok (.aload_n 1, 1) := by decide +kernel
theorem dL_law_1263 : decode cL_law 1263 = .ok (.aload_n 0, 1) := by decide +kernel
theorem dL_law_1264 : decode cL_law 1264 = .ok (.iload_n 3, 1) := by decide +kernel
theorem dL_law_1265 : decode cL_law 1265 = .ok (.iconst 1, 1) := by decide +kernel
theorem dL_law_1266 : decode cL_law 1266 = .ok (.iadd, 1) := by decide +kernel
theorem dL_law_1267 : decode cL_law 1267 = .ok (.iaload, 1) := by decide +kernel
theorem dL_law_1268 : decode cL_law 1268 = .ok (.aload_n 0, 1) := by decide +kernel
theorem dL_law_1269 : decode cL_law 1269 = .ok (.iload_n 3, 1) := by decide +kernel
theorem dL_law_1270 : decode cL_law 1270 = .ok (.iconst 2, 1) := by decide +kernel
theorem dL_law_1271 : decode cL_law 1271 = .ok (.iadd, 1) := by decide +kernel
theorem dL_law_1272 : decode cL_law 1272 = .ok (.iaload, 1) := by decide +kernel
theorem dL_law_1273 : decode cL_law 1273 = .ok (.aload_n 0, 1) := by decide +kernel
theorem dL_law_1274 : decode cL_law 1274 = .ok (.iload_n 3, 1) := by decide +kernel
theorem dL_law_1275 : decode cL_law 1275 = .ok (.iconst 3, 1) := by decide +kernel
theorem dL_law_1276 : decode cL_law 1276 = .ok (.iadd, 1) := by decide +kernel
theorem dL_law_1277 : decode cL_law 1277 = .ok (.iaload, 1) := by decide +kernel
theorem dL_law_1278 : decode cL_law 1278 = .ok (.aload_n 0, 1) := by decide +kernel
theorem dL_law_1279 : decode cL_law 1279 = .ok (.iload_n 3, 1) := by decide +kernel
theorem dL_law_1280 : decode cL_law 1280 = .ok (.iconst 4, 1) := by decide +kernel
theorem dL_law_1281 : decode cL_law 1281 = .ok (.iadd, 1) := by decide +kernel
theorem dL_law_1282 : decode cL_law 1282 = .ok (.iaload, 1) := by decide +kernel
theorem dL_law_1283 : decode cL_law 1283 = .ok (.aload_n 0, 1) := by decide +kernel
theorem dL_law_1284 : decode cL_law 1284 = .ok (.iload_n 3, 1) := by decide +kernel
theorem dL_law_1285 : decode cL_law 1285 = .ok (.iconst 5, 1) := by decide +kernel
theorem dL_law_1286 : decode cL_law 1286 = .ok (.iadd, 1) := by decide +kernel
theorem dL_law_1287 : decode cL_law 1287 = .ok (.iaload, 1) := by decide +kernel
theorem dL_law_1288 : decode cL_law 1288 = .ok (.invokevirtual 162, 3) := by decide +kernel
theorem dL_law_1291 : decode cL_law 1291 = .ok (.aload_n 2, 1) := by decide +kernel
theorem dL_law_1292 : decode cL_law 1292 = .ok (.aload_n 0, 1) := by decide +kernel
theorem dL_law_1293 : decode cL_law 1293 = .ok (.iload_n 3, 1) := by decide +kernel
theorem dL_law_1294 : decode cL_law 1294 = .ok (.iconst 1, 1) := by decide +kernel
theorem dL_law_1295 : decode cL_law 1295 = .ok (.iadd, 1) := by decide +kernel
theorem dL_law_1296 : decode cL_law 1296 = .ok (.iaload, 1) := by decide +kernel
theorem dL_law_1297 : decode cL_law 1297 = .ok (.aload_n 0, 1) := by decide +kernel
theorem dL_law_1298 : decode cL_law 1298 = .ok (.iload_n 3, 1) := by decide +kernel
theorem dL_law_1299 : decode cL_law 1299 = .ok (.iconst 2, 1) := by decide +kernel
theorem dL_law_1300 : decode cL_law 1300 = .ok (.iadd, 1) := by decide +kernel
theorem dL_law_1301 : decode cL_law 1301 = .ok (.iaload, 1) := by decide +kernel
theorem dL_law_1302 : decode cL_law 1302 = .ok (.aload_n 0, 1) := by decide +kernel
theorem dL_law_1303 : decode cL_law 1303 = .ok (.iload_n 3, 1) := by decide +kernel
theorem dL_law_1304 : decode cL_law 1304 = .ok (.iconst 3, 1) := by decide +kernel
theorem dL_law_1305 : decode cL_law 1305 = .ok (.iadd, 1) := by decide +kernel
theorem dL_law_1306 : decode cL_law 1306 = .ok (.iaload, 1) := by decide +kernel
theorem dL_law_1307 : decode cL_law 1307 = .ok (.aload_n 0, 1) := by decide +kernel
theorem dL_law_1308 : decode cL_law 1308 = .ok (.iload_n 3, 1) := by decide +kernel
theorem dL_law_1309 : decode cL_law 1309 = .ok (.iconst 4, 1) := by decide +kernel
theorem dL_law_1310 : decode cL_law 1310 = .ok (.iadd, 1) := by decide +kernel
theorem dL_law_1311 : decode cL_law 1311 = .ok (.iaload, 1) := by decide +kernel
theorem dL_law_1312 : decode cL_law 1312 = .ok (.aload_n 0, 1) := by decide +kernel
theorem dL_law_1313 : decode cL_law 1313 = .ok (.iload_n 3, 1) := by decide +kernel
theorem dL_law_1314 : decode cL_law 1314 = .ok (.iconst 5, 1) := by decide +kernel
theorem dL_law_1315 : decode cL_law 1315 = .ok (.iadd, 1) := by decide +kernel
theorem dL_law_1316 : decode cL_law 1316 = .ok (.iaload, 1) := by decide +kernel
theorem dL_law_1317 : decode cL_law 1317 = .ok (.invokevirtual 166, 3) := by decide +kernel
theorem dL_law_1320 : decode cL_law 1320 = .ok (.if_icmp .eq 54, 3) := by decide +kernel
theorem dL_law_1323 : decode cL_law 1323 = .ok (.iconst 0, 1) := by decide +kernel
theorem dL_law_1324 : decode cL_law 1324 = .ok (.ireturn, 1) := by decide +kernel
theorem dL_law_1325 : decode cL_law 1325 = .ok (.aload_n 1, 1) := by decide +kernel
theorem dL_law_1326 : decode cL_law 1326 = .ok (.invokevirtual 167, 3) := by decide +kernel
theorem dL_law_1329 : decode cL_law 1329 = .ok (.aload_n 2, 1) := by decide +kernel
theorem dL_law_1330 : decode cL_law 1330 = .ok (.invokevirtual 170, 3) := by decide +kernel
theorem dL_law_1333 : decode cL_law 1333 = .ok (.if_icmp .eq 41, 3) := by decide +kernel
theorem dL_law_1336 : decode cL_law 1336 = .ok (.iconst 0, 1) := by decide +kernel
theorem dL_law_1337 : decode cL_law 1337 = .ok (.ireturn, 1) := by decide +kernel
theorem dL_law_1338 : decode cL_law 1338 = .ok (.aload_n 1, 1) := by decide +kernel
theorem dL_law_1339 : decode cL_law 1339 = .ok (.invokevirtual 171, 3) := by decide +kernel
theorem dL_law_1342 : decode cL_law 1342 = .ok (.aload_n 2, 1) := by decide +kernel
theorem dL_law_1343 : decode cL_law 1343 = .ok (.invokevirtual 174, 3) := by decide +kernel
theorem dL_law_1346 : decode cL_law 1346 = .ok (.if_icmp .eq 28, 3) := by decide +kernel
theorem dL_law_1349 : decode cL_law 1349 = .ok (.iconst 0, 1) := by decide +kernel
theorem dL_law_1350 : decode cL_law 1350 = .ok (.ireturn, 1) := by decide +kernel
theorem dL_law_1351 : decode cL_law 1351 = .ok (.aload_n 1, 1) := by decide +kernel
theorem dL_law_1352 : decode cL_law 1352 = .ok (.aload_n 0, 1) := by decide +kernel
theorem dL_law_1353 : decode cL_law 1353 = .ok (.iload_n 3, 1) := by decide +kernel
theorem dL_law_1354 : decode cL_law 1354 = .ok (.iconst 1, 1) := by decide +kernel
theorem dL_law_1355 : decode cL_law 1355 = .ok (.iadd, 1) := by decide +kernel
theorem dL_law_1356 : decode cL_law 1356 = .ok (.iaload, 1) := by decide +kernel
theorem dL_law_1357 : decode cL_law 1357 = .ok (.invokevirtual 175, 3) := by decide +kernel
theorem dL_law_1360 : decode cL_law 1360 = .ok (.aload_n 2, 1) := by decide +kernel
theorem dL_law_1361 : decode cL_law 1361 = .ok (.aload_n 0, 1) := by decide +kernel
theorem dL_law_1362 : decode cL_law 1362 = .ok (.iload_n 3, 1) := by decide +kernel
theorem dL_law_1363 : decode cL_law 1363 = .ok (.iconst 1, 1) := by decide +kernel
theorem dL_law_1364 : decode cL_law 1364 = .ok (.iadd, 1) := by decide +kernel
theorem dL_law_1365 : decode cL_law 1365 = .ok (.iaload, 1) := by decide +kernel
theorem dL_law_1366 : decode cL_law 1366 = .ok (.invokevirtual 178, 3) := by decide +kernel
theorem dL_law_1369 : decode cL_law 1369 = .ok (.if_icmp .eq 5, 3) := by decide +kernel
theorem dL_law_1372 : decode cL_law 1372 = .ok (.iconst 0, 1) := by decide +kernel
theorem dL_law_1373 : decode cL_law 1373 = .ok (.ireturn, 1) := by decide +kernel
theorem dL_law_1374 : decode cL_law 1374 = .ok (.iinc 3 6, 3) := by decide +kernel
theorem dL_law_1377 : decode cL_law 1377 = .ok (.goto (-1359), 3) := by decide +kernel
theorem dL_law_1380 : decode cL_law 1380 = .ok (.iconst 1, 1) := by decide +kernel
theorem dL_law_1381 : decode cL_law 1381 = .ok (.ireturn, 1) := by decide +kernel
end
section
/-! THE LAYER AW: all cells that the law's run makes, by number; ints and longs in two memories I, J (cell, place); a method's walk without heaps, rooms and frames -/
def aw_tbl : List Cond := lw_tbl.filter goodWord
theorem aw_tbl_sub {w : Cond} (h : w ∈ aw_tbl) : w ∈ lw_tbl := (List.mem_filter.mp h).1
theorem aw_tbl_good {w : Cond} (h : w ∈ aw_tbl) : goodWord w = true := (List.mem_filter.mp h).2
theorem aw_goodIn {ws : List Cond} (h : ∀ w ∈ ws, w ∈ aw_tbl) : GoodIn aw_tbl ws := fun w hw => ⟨h w hw, good_of_word (aw_tbl_good (h w hw))⟩
abbrev classes : List vw_C := [(RX0, TX0, 5), (RX1, TX1, 9), (RX2, TX2, 2), (RX4, TX4, 3), (RX5, TX5, 3), (RX6, TX6, 13), (RX7, TX7, 9), (RX8, TX8, 33)]
/-- the kinds of a class's fields: 0 int, 1 long, 2 a reference, 3 boolean -/
def aw_kd : FieldType → Nat
  | .int => 0
  | .long => 1
  | .boolean => 3
  | _ => 2
def aw_fty : Nat → List Nat
  | 0 => (List.range 5).map (fun k => aw_kd (tyX0 k))
  | 1 => (List.range 9).map (fun k => aw_kd (tyX1 k))
  | 2 => (List.range 2).map (fun k => aw_kd (tyX2 k))
  | 3 => (List.range 3).map (fun k => aw_kd (tyX4 k))
  | 4 => (List.range 3).map (fun k => aw_kd (tyX5 k))
  | 5 => (List.range 13).map (fun k => aw_kd (tyX6 k))
  | 6 => (List.range 9).map (fun k => aw_kd (tyX7 k))
  | _ => (List.range 33).map (fun k => aw_kd (tyX8 k))
/-- a cell's shape: an object of class number ci, or an array: (0, n) of ints, (1, n) of longs, (2, n) of references -/
abbrev aw_S : Type := Nat ⊕ (Nat × Nat)
/-- the world: shapes, references, how many cells -/
abbrev aw_O : Type := (Nat → aw_S) × (Nat → Nat → Option Nat) × Nat
def aw_sh (Ω : aw_O) (i : Nat) : aw_S := Ω.1 i
def aw_P (Ω : aw_O) (i k : Nat) : Option Nat := Ω.2.1 i k
def aw_nx (Ω : aw_O) : Nat := Ω.2.2
/-- the launch, class numbers and slots, the classes of int[], long[], long[][], the first address -/
abbrev aw_G : Type := Launch × va_G × ClassId × ClassId × ClassId × Nat
abbrev aw_l (G : aw_G) : Launch := G.1
abbrev aw_D (G : aw_G) : va_G := G.2.1
abbrev aw_cI (G : aw_G) : ClassId := G.2.2.1
abbrev aw_cJ (G : aw_G) : ClassId := G.2.2.2.1
abbrev aw_cR (G : aw_G) : ClassId := G.2.2.2.2.1
abbrev aw_bs (G : aw_G) : Nat := G.2.2.2.2.2
def aw_ad (G : aw_G) (i : Nat) : Nat := aw_bs G + i
abbrev aw_A (G : aw_G) : Nat → Prop := fun q => aw_bs G ≤ q
abbrev aw_MI : Type := Nat → Nat → Int32
abbrev aw_MJ : Type := Nat → Nat → Int64
abbrev aw_tys (G : aw_G) : List (ClassId × FieldType) := [(aw_cI G, .int), (aw_cJ G, .long), (aw_cR G, .array .long)]
def aw_val (G : aw_G) (Ω : aw_O) (I : aw_MI) (J : aw_MJ) (i k t : Nat) : Value := if t = 1 then .long (J i k) else if t = 2 then va_rf ((aw_P Ω i k).map (aw_ad G)) else .int (I i k)
def aw_fl (f : Nat → Nat → Value) : Nat → List Nat → List Value
  | _, [] => []
  | k, t :: ts => f k t :: aw_fl f (k + 1) ts
theorem aw_fl_get (f : Nat → Nat → Value) : ∀ (ts : List Nat) (s k t : Nat), ts[k]? = some t → (aw_fl f s ts)[k]? = some (f (s + k) t)
  | [], s, k, t, h => by simp at h
  | a :: ts, s, 0, t, h => by
    simp at h
    subst h
    simp [aw_fl]
  | a :: ts, s, k + 1, t, h => by
    simp only [List.getElem?_cons_succ] at h
    simp only [aw_fl, List.getElem?_cons_succ]
    rw [aw_fl_get f ts (s + 1) k t h]
    congr 2
    omega
theorem aw_fl_len (f : Nat → Nat → Value) : ∀ (ts : List Nat) (s : Nat), (aw_fl f s ts).length = ts.length
  | [], _ => rfl
  | a :: ts, s => by simp [aw_fl, aw_fl_len f ts (s + 1)]
theorem aw_fl_congr (f g : Nat → Nat → Value) : ∀ (ts : List Nat) (s : Nat), (∀ j t', s ≤ j → f j t' = g j t') → aw_fl f s ts = aw_fl g s ts
  | [], _, _ => rfl
  | a :: ts, s, h => by
    simp only [aw_fl]
    rw [h s a (Nat.le_refl s), aw_fl_congr f g ts (s + 1) (fun j t' hj => h j t' (by omega))]
theorem aw_fl_set (f g : Nat → Nat → Value) : ∀ (ts : List Nat) (s k t : Nat), ts[k]? = some t → (∀ j t', j ≠ s + k → g j t' = f j t') → (aw_fl f s ts).set k (g (s + k) t) = aw_fl g s ts
  | [], s, k, t, h, _ => by simp at h
  | a :: ts, s, 0, t, h, hg => by
    simp at h
    subst h
    simp only [aw_fl, List.set_cons_zero]
    congr 1
    exact aw_fl_congr f g ts (s + 1) (fun j t' hj => (hg j t' (by omega)).symm)
  | a :: ts, s, k + 1, t, h, hg => by
    simp only [List.getElem?_cons_succ] at h
    simp only [aw_fl, List.set_cons_succ]
    have e : s + (k + 1) = (s + 1) + k := by omega
    rw [e, aw_fl_set f g ts (s + 1) k t h (fun j t' hj => hg j t' (by omega)), hg s a (by omega)]
def aw_E (G : aw_G) (Ω : aw_O) (I : aw_MI) (J : aw_MJ) (i : Nat) : va_E := match aw_sh Ω i with
  | .inl ci => .inr (ci, aw_fl (aw_val G Ω I J i) 0 (aw_fty ci))
  | .inr (0, n) => .inl (aw_cI G, n, .inl (I i))
  | .inr (1, n) => .inl (aw_cJ G, n, .inr (.inl (J i)))
  | .inr (_, n) => .inl (aw_cR G, n, .inr (.inr (.inr (.inr (fun k => (aw_P Ω i k).map (aw_ad G))))))
def aw_ws (G : aw_G) (Ω : aw_O) (I : aw_MI) (J : aw_MJ) : va_W := (List.range (aw_nx Ω)).map (fun i => (aw_ad G i, aw_E G Ω I J i))
theorem aw_at {G : aw_G} {Ω : aw_O} {I : aw_MI} {J : aw_MJ} {i : Nat} (h : i < aw_nx Ω) : (aw_ws G Ω I J)[i]? = some (aw_ad G i, aw_E G Ω I J i) := by
  simp [aw_ws, h]
theorem aw_set {G : aw_G} {Ω : aw_O} {I I' : aw_MI} {J J' : aw_MJ} {i : Nat} {e : va_E} (he : e = aw_E G Ω I' J' i) (ho : ∀ j, j ≠ i → aw_E G Ω I' J' j = aw_E G Ω I J j) : (aw_ws G Ω I J).set i (aw_ad G i, e) = aw_ws G Ω I' J' := by
  apply List.ext_getElem?
  intro j
  by_cases hj : j < aw_nx Ω
  · by_cases hji : j = i
    · subst hji
      rw [List.getElem?_set_self (by simp [aw_ws, hj]), aw_at hj, he]
    · rw [List.getElem?_set_ne (Ne.symm hji), aw_at hj, aw_at hj, ho j hji]
  · rw [List.getElem?_eq_none (by simp [aw_ws]; omega), List.getElem?_eq_none (by simp [aw_ws]; omega)]
/-- a place of a memory gets another number -/
def aw_up {α : Type} (I : Nat → Nat → α) (i j : Nat) (x : α) : Nat → Nat → α := fun a k => if a = i ∧ k = j then x else I a k
theorem aw_up_self {α : Type} (I : Nat → Nat → α) (i j : Nat) (x : α) : aw_up I i j x i j = x := by simp [aw_up]
theorem aw_up_ne {α : Type} (I : Nat → Nat → α) {i j a k : Nat} (x : α) (h : a ≠ i ∨ k ≠ j) : aw_up I i j x a k = I a k := by
  unfold aw_up
  rw [if_neg]
  rintro ⟨h1, h2⟩
  rcases h with h | h
  · exact h h1
  · exact h h2
theorem aw_up_off {α : Type} (I : Nat → Nat → α) {i j a : Nat} (x : α) (h : a ≠ i) : aw_up I i j x a = I a := funext fun k => aw_up_ne I x (Or.inl h)
/-- n numbers of cell s from place sp on go to cell t from place dp on -/
def aw_cp {α : Type} (I : Nat → Nat → α) (s t sp dp n : Nat) : Nat → Nat → α := fun a k => if a = t ∧ dp ≤ k ∧ k < dp + n then I s (sp + (k - dp)) else I a k
theorem aw_cp_off {α : Type} (I : Nat → Nat → α) {s t sp dp n a : Nat} (h : a ≠ t) : aw_cp I s t sp dp n a = I a := funext fun k => by
  unfold aw_cp
  rw [if_neg]
  exact fun q => h q.1
/-- what is known of the tables -/
def aw_nest : List Cond := [.methodLinkNest RX7 9 yX1_init RX7, .methodLinkNest RX7 50 yX0_init RX7, .methodLinkNest RX6 11 yX4_init RX7, .methodLinkNest RX2 11 yX4_init RX7]
def aw_K (G : aw_G) (U : State) : Prop := va_K (aw_D G) classes (aw_tys G) U ∧ (∀ w ∈ aw_nest, va_Nw w U) ∧ (Cond.arrayOver (.array .long)).before #[] U = true
def aw_R (G : aw_G) (Ω : aw_O) (I : aw_MI) (J : aw_MJ) (H : Heap) : Prop := va_P (aw_D G) classes (aw_ws G Ω I J) H ∧ H.size = aw_bs G + aw_nx Ω
/-- a method: its name, code, locals, what it returns, scripts that it was given -/
abbrev aw_M : Type := MethodName × ByteArray × Nat × Option FieldType × List (Nat × Nat × (Nat → Int32))
abbrev aw_y (M : aw_M) : MethodName := M.1
abbrev aw_cc (M : aw_M) : ByteArray := M.2.1
abbrev aw_nL (M : aw_M) : Nat := M.2.2.1
abbrev aw_rt (M : aw_M) : Option FieldType := M.2.2.2.1
abbrev aw_scr (M : aw_M) : List (Nat × Nat × (Nat → Int32)) := M.2.2.2.2
/-- locals by their places; .null: nothing known -/
def aw_al : Nat → List Value → List (Nat × Value)
  | _, [] => []
  | i, v :: r => if v = .null then aw_al (i + 1) r else (i, v) :: aw_al (i + 1) r
theorem aw_al_mem : ∀ (l : List Value) (s j : Nat) (w : Value), (j, w) ∈ aw_al s l ↔ s ≤ j ∧ l[j - s]? = some w ∧ w ≠ .null
  | [], s, j, w => by simp [aw_al]
  | v :: r, s, j, w => by
    have ih := aw_al_mem r (s + 1) j w
    by_cases hv : v = .null
    · simp only [aw_al, hv, if_true, ih]
      constructor
      · rintro ⟨h1, h2, h3⟩
        refine ⟨by omega, ?_, h3⟩
        rw [show j - s = (j - (s + 1)) + 1 by omega, List.getElem?_cons_succ]
        exact h2
      · rintro ⟨h1, h2, h3⟩
        by_cases hj : j = s
        · subst hj
          simp at h2
          exact absurd h2.symm h3
        · refine ⟨by omega, ?_, h3⟩
          rw [show j - s = (j - (s + 1)) + 1 by omega, List.getElem?_cons_succ] at h2
          exact h2
    · simp only [aw_al, hv, if_false, List.mem_cons, ih, Prod.mk.injEq]
      constructor
      · rintro (⟨h1, h2⟩ | ⟨h1, h2, h3⟩)
        · subst h1
          subst h2
          simp [hv]
        · refine ⟨by omega, ?_, h3⟩
          rw [show j - s = (j - (s + 1)) + 1 by omega, List.getElem?_cons_succ]
          exact h2
      · rintro ⟨h1, h2, h3⟩
        by_cases hj : j = s
        · subst hj
          simp at h2
          exact Or.inl ⟨rfl, h2.symm⟩
        · refine Or.inr ⟨by omega, ?_, h3⟩
          rw [show j - s = (j - (s + 1)) + 1 by omega, List.getElem?_cons_succ] at h2
          exact h2
def aw_L (ls : Array Slot) (nL : Nat) (lv : List Value) : Prop := lv_has ls nL (aw_al 0 lv)
theorem aw_L_at {ls : Array Slot} {nL : Nat} {lv : List Value} (h : aw_L ls nL lv) {i : Nat} {v : Value} (hi : lv[i]? = some v) (hv : v ≠ .null) : ls[i]? = some (.val v) := h.2.2 (i, v) ((aw_al_mem lv 0 i v).mpr ⟨Nat.zero_le _, hi, hv⟩)
/-- a long that ends at place i is no more -/
def aw_kl (lv : List Value) : Nat → List Value
  | 0 => lv
  | i + 1 => match lv[i]? with
    | some (.long _) => lv.set i .null
    | some (.double _) => lv.set i .null
    | _ => lv
def aw_st1 (lv : List Value) (i : Nat) (v : Value) : List Value := (aw_kl lv i).set i v
def aw_st2 (lv : List Value) (i : Nat) (v : Value) : List Value := ((aw_kl lv i).set i v).set (i + 1) .null
theorem aw_kl_ne {lv : List Value} {i j : Nat} {w : Value} (h : (aw_kl lv i)[j]? = some w) (hw : w ≠ .null) : lv[j]? = some w ∧ ¬ (j + 1 = i ∧ w.category = 2) := by
  cases i with
  | zero => exact ⟨h, by omega⟩
  | succ i =>
    have key : ∀ x : Value, lv[i]? = some x → (lv.set i .null)[j]? = some w → lv[j]? = some w ∧ ¬ (j + 1 = i + 1 ∧ w.category = 2) := by
      intro x hx h2
      by_cases hj : j = i
      · subst hj
        rw [List.getElem?_set_self (List.getElem?_eq_some_iff.mp hx).1] at h2
        exact absurd (Option.some.inj h2).symm hw
      · rw [List.getElem?_set_ne (Ne.symm hj)] at h2
        exact ⟨h2, fun q => hj (by omega)⟩
    simp only [aw_kl] at h
    split at h
    next x hx => exact key _ hx h
    next x hx => exact key _ hx h
    next h1 h2 =>
      refine ⟨h, ?_⟩
      rintro ⟨e, hc⟩
      have e2 : j = i := by omega
      subst e2
      cases w with
      | long x => exact h1 x h
      | double x => exact h2 x h
      | int x => cases hc
      | float x => cases hc
      | null => cases hc
      | ref x => cases hc
      | retAddr x => cases hc
theorem aw_L_st1 {ls' : Array Slot} {nL i : Nat} {lv : List Value} {v : Value} (h : lv_has ls' nL ((i, v) :: (aw_al 0 lv).filter (fun q => !(q.1 == i) && !(q.1 + 1 == i && q.2.category == 2)))) : aw_L ls' nL (aw_st1 lv i v) := by
  refine ⟨h.1, h.2.1, fun q hq => ?_⟩
  obtain ⟨j, w⟩ := q
  obtain ⟨-, h2, h3⟩ := (aw_al_mem _ 0 j w).mp hq
  simp only [Nat.sub_zero, aw_st1] at h2
  refine h.2.2 (j, w) ?_
  by_cases hj : j = i
  · subst hj
    have hl : j < (aw_kl lv j).length := by
      have := (List.getElem?_eq_some_iff.mp h2).1
      simpa using this
    rw [List.getElem?_set_self hl] at h2
    rw [Option.some.inj h2]
    exact List.mem_cons_self
  · rw [List.getElem?_set_ne (Ne.symm hj)] at h2
    obtain ⟨h4, h5⟩ := aw_kl_ne h2 h3
    refine List.mem_cons_of_mem _ (List.mem_filter.mpr ⟨(aw_al_mem lv 0 j w).mpr ⟨Nat.zero_le _, h4, h3⟩, ?_⟩)
    simp only [Bool.and_eq_true, Bool.not_eq_true', beq_eq_false_iff_ne, ne_eq, hj, not_false_eq_true, true_and, Bool.and_eq_false_iff]
    by_cases hc : j + 1 = i
    · exact Or.inr (fun q => h5 ⟨hc, q⟩)
    · exact Or.inl hc
theorem aw_L_st2 {ls' : Array Slot} {nL i : Nat} {lv : List Value} {v : Value} (h : lv_has ls' nL ((i, v) :: (aw_al 0 lv).filter (fun q => !(q.1 == i) && (!(q.1 == i + 1) && !(q.1 + 1 == i && q.2.category == 2))))) : aw_L ls' nL (aw_st2 lv i v) := by
  refine ⟨h.1, h.2.1, fun q hq => ?_⟩
  obtain ⟨j, w⟩ := q
  obtain ⟨-, h2, h3⟩ := (aw_al_mem _ 0 j w).mp hq
  simp only [Nat.sub_zero, aw_st2] at h2
  refine h.2.2 (j, w) ?_
  by_cases hj1 : j = i + 1
  · subst hj1
    have hl : i + 1 < ((aw_kl lv i).set i v).length := by
      have := (List.getElem?_eq_some_iff.mp h2).1
      simpa using this
    rw [List.getElem?_set_self hl] at h2
    exact absurd (Option.some.inj h2).symm h3
  · rw [List.getElem?_set_ne (Ne.symm hj1)] at h2
    by_cases hj : j = i
    · subst hj
      have hl : j < (aw_kl lv j).length := by
        have := (List.getElem?_eq_some_iff.mp h2).1
        simpa using this
      rw [List.getElem?_set_self hl] at h2
      rw [Option.some.inj h2]
      exact List.mem_cons_self
    · rw [List.getElem?_set_ne (Ne.symm hj)] at h2
      obtain ⟨h4, h5⟩ := aw_kl_ne h2 h3
      refine List.mem_cons_of_mem _ (List.mem_filter.mpr ⟨(aw_al_mem lv 0 j w).mpr ⟨Nat.zero_le _, h4, h3⟩, ?_⟩)
      simp only [Bool.and_eq_true, Bool.not_eq_true', beq_eq_false_iff_ne, ne_eq, hj, hj1, not_false_eq_true, true_and, Bool.and_eq_false_iff]
      by_cases hc : j + 1 = i
      · exact Or.inr (fun q => h5 ⟨hc, q⟩)
      · exact Or.inl hc
/-- the locals with which a method begins -/
def aw_in : List Value → List Value
  | [] => []
  | v :: r => if v.category = 2 then v :: .null :: aw_in r else v :: aw_in r
theorem aw_in_mem : ∀ (vs : List Value) (s : Nat) (q : Nat × Value), q ∈ aw_al s (aw_in vs) → q ∈ lv_args s vs
  | [], s, q, h => by simp [aw_in, aw_al] at h
  | v :: r, s, q, h => by
    unfold aw_in at h
    unfold lv_args
    by_cases hc : v.category = 2
    · simp only [hc, if_true] at h ⊢
      have hv : v ≠ .null := fun e => by rw [e] at hc; cases hc
      simp only [aw_al, hv, if_false, if_true, List.mem_cons] at h ⊢
      rcases h with h | h
      · exact Or.inl h
      · exact Or.inr (aw_in_mem r (s + 2) q h)
    · simp only [hc, if_false] at h ⊢
      by_cases hv : v = .null
      · simp only [aw_al, hv, if_true] at h
        exact List.mem_cons_of_mem _ (aw_in_mem r (s + 1) q h)
      · simp only [aw_al, hv, if_false, List.mem_cons] at h ⊢
        rcases h with h | h
        · exact Or.inl h
        · exact Or.inr (aw_in_mem r (s + 1) q h)
/-- nothing known of the places behind the arguments -/
theorem aw_al_app : ∀ (l : List Value) (s n : Nat) (q : Nat × Value), q ∈ aw_al s (l ++ List.replicate n .null) → q ∈ aw_al s l
  | [], s, n, q, h => by
    obtain ⟨j, w⟩ := q
    obtain ⟨-, h2, h3⟩ := (aw_al_mem _ s j w).mp h
    have := List.mem_of_getElem? h2
    simp at this
    exact absurd this.2 h3
  | v :: r, s, n, q, h => by
    simp only [List.cons_append] at h
    unfold aw_al at h ⊢
    by_cases hv : v = .null
    · simp only [hv, if_true] at h ⊢
      exact aw_al_app r (s + 1) n q h
    · simp only [hv, if_false, List.mem_cons] at h ⊢
      rcases h with h | h
      · exact Or.inl h
      · exact Or.inr (aw_al_app r (s + 1) n q h)

/-- what stands fast while a method runs -/
def aw_Fix (G : aw_G) (M : aw_M) (N0 d mc ms : Nat) (p : Program) (R : Room) (s : State) (m : MethodId) (args : Array Value) (meth : Method) (c : Code) : Prop :=
  p.tables.exec = Jvm.exec ∧ c.code = aw_cc M ∧ meth.sig.returnType = aw_rt M ∧ meth.locks = false ∧ c.maxLocals = aw_nL M ∧ s.vm.findClass (aw_y M).cls = some m.cls ∧ (∀ w ∈ aw_tbl, w.before args s = true) ∧ aw_K G s ∧ meth.name = (aw_y M).name ∧
  d ≤ R.frames ∧ 64 * d ≤ R.locals ∧ mc ≤ R.cells ∧ ms ≤ R.slots ∧ s.heap.size = aw_bs G + N0 ∧ ∀ q ∈ aw_scr M, va_X q.1 q.2.1 q.2.2 s s.heap ∧ q.1 < aw_bs G ∧ q.1 < s.heap.size
def aw_rok (M : aw_M) (v : Option Value) (pc : Nat) : Prop :=
  (∃ x : Int32, v = some (.int x) ∧ decode (aw_cc M) pc = .ok (.ireturn, 1) ∧ ∃ ty, aw_rt M = some ty ∧ narrow ty (.int x) = .int x) ∨ (∃ x : Int64, v = some (.long x) ∧ decode (aw_cc M) pc = .ok (.lreturn, 1) ∧ aw_rt M = some .long) ∨ (v = none ∧ decode (aw_cc M) pc = .ok (.return_, 1) ∧ aw_rt M = none)
abbrev aw_Q : Type := Option Value → aw_O → aw_MI → aw_MJ → Prop
def aw_End (G : aw_G) (M : aw_M) (mc ms : Nat) (Q : aw_Q) (p : Program) (e : Env) (R : Room) (s : State) (m : MethodId) (args : Array Value) (below : List Frame) (meth : Method) (c : Code) (Z : State → Prop) : Prop :=
  ∀ (v : Option Value) (Ω : aw_O) (I : aw_MI) (J : aw_MJ) (H : Heap) (locs : List Loc) (k n : Nat) (pc : Nat) (ls : Array Slot), Q v Ω I J → aw_R G Ω I J H → va_S (aw_A G) s.heap H locs → k ≤ mc → n ≤ ms → aw_rok M v pc → W p (aw_l G) e R s m args below meth c H locs k n Z (F0 m pc ls v.toList)
/-- at place pc, with the memories I, J, the locals lv, the stack st: the method comes to its end with Q -/
def AW (G : aw_G) (M : aw_M) (N0 d mc ms : Nat) (Q : aw_Q) (Ω : aw_O) (I : aw_MI) (J : aw_MJ) (k n : Nat) (lv : List Value) (pc : Nat) (st : List Value) : Prop :=
  ∀ (p : Program) (e : Env) (R : Room) (s : State) (m : MethodId) (args : Array Value) (below : List Frame) (meth : Method) (c : Code) (H : Heap) (locs : List Loc) (ls : Array Slot) (Z : State → Prop), aw_Fix G M N0 d mc ms p R s m args meth c → aw_L ls (aw_nL M) lv → aw_R G Ω I J H → va_S (aw_A G) s.heap H locs → aw_End G M mc ms Q p e R s m args below meth c Z → W p (aw_l G) e R s m args below meth c H locs k n Z (F0 m pc ls st)
section AWR
variable {G : aw_G} {M : aw_M} {N0 d mc ms : Nat} {Q : aw_Q} {Ω : aw_O} {I : aw_MI} {J : aw_MJ} {k n : Nat} {lv : List Value} {pc : Nat} {st : List Value}

theorem aw_iconst {z : Int} {v : Int32} (hd : decode (aw_cc M) pc = .ok (.iconst z, 1)) (hv : Int32.ofInt z = v) (kk : AW G M N0 d mc ms Q Ω I J k n lv (pc + 1) (.int v :: st)) : AW G M N0 d mc ms Q Ω I J k n lv pc (st) := by
  intro p e R s m args below meth c H locs ls Z hF hl hR hS hE
  exact lv_iconst hF.1 hF.2.1 hd hv (kk p e R s m args below meth c H locs ls Z hF hl hR hS hE)
theorem aw_bipush {z : Int} {v : Int32} (hd : decode (aw_cc M) pc = .ok (.bipush z, 2)) (hv : (Int8.ofInt z).toInt32 = v) (kk : AW G M N0 d mc ms Q Ω I J k n lv (pc + 2) (.int v :: st)) : AW G M N0 d mc ms Q Ω I J k n lv pc (st) := by
  intro p e R s m args below meth c H locs ls Z hF hl hR hS hE
  exact lv_bipush hF.1 hF.2.1 hd hv (kk p e R s m args below meth c H locs ls Z hF hl hR hS hE)
theorem aw_sipush {z : Int} {v : Int32} (hd : decode (aw_cc M) pc = .ok (.sipush z, 3)) (hv : (Int16.ofInt z).toInt32 = v) (kk : AW G M N0 d mc ms Q Ω I J k n lv (pc + 3) (.int v :: st)) : AW G M N0 d mc ms Q Ω I J k n lv pc (st) := by
  intro p e R s m args below meth c H locs ls Z hF hl hR hS hE
  exact lv_sipush hF.1 hF.2.1 hd hv (kk p e R s m args below meth c H locs ls Z hF hl hR hS hE)
theorem aw_lconst {z : Fin 2} {v : Int64} (hd : decode (aw_cc M) pc = .ok (.lconst z, 1)) (hv : Int64.ofNat (z : Nat) = v) (kk : AW G M N0 d mc ms Q Ω I J k n lv (pc + 1) (.long v :: st)) : AW G M N0 d mc ms Q Ω I J k n lv pc (st) := by
  intro p e R s m args below meth c H locs ls Z hF hl hR hS hE
  exact lv_lconst hF.1 hF.2.1 hd hv (kk p e R s m args below meth c H locs ls Z hF hl hR hS hE)
theorem aw_iload_n {z : Fin 4} {x : Int32} (hd : decode (aw_cc M) pc = .ok (.iload_n z, 1)) (hg : lv[(z : Nat)]? = some (.int x)) (kk : AW G M N0 d mc ms Q Ω I J k n lv (pc + 1) (.int x :: st)) : AW G M N0 d mc ms Q Ω I J k n lv pc (st) := by
  intro p e R s m args below meth c H locs ls Z hF hl hR hS hE
  exact lv_iload_n hF.1 hF.2.1 hd rfl (aw_L_at hl hg (fun q => by cases q)) (kk p e R s m args below meth c H locs ls Z hF hl hR hS hE)
theorem aw_iload {i : Nat} {x : Int32} (hd : decode (aw_cc M) pc = .ok (.iload i, 2)) (hg : lv[i]? = some (.int x)) (kk : AW G M N0 d mc ms Q Ω I J k n lv (pc + 2) (.int x :: st)) : AW G M N0 d mc ms Q Ω I J k n lv pc (st) := by
  intro p e R s m args below meth c H locs ls Z hF hl hR hS hE
  exact lv_iload hF.1 hF.2.1 hd (aw_L_at hl hg (fun q => by cases q)) (kk p e R s m args below meth c H locs ls Z hF hl hR hS hE)
theorem aw_lload_n {z : Fin 4} {x : Int64} (hd : decode (aw_cc M) pc = .ok (.lload_n z, 1)) (hg : lv[(z : Nat)]? = some (.long x)) (kk : AW G M N0 d mc ms Q Ω I J k n lv (pc + 1) (.long x :: st)) : AW G M N0 d mc ms Q Ω I J k n lv pc (st) := by
  intro p e R s m args below meth c H locs ls Z hF hl hR hS hE
  exact lv_lload_n hF.1 hF.2.1 hd rfl (aw_L_at hl hg (fun q => by cases q)) (kk p e R s m args below meth c H locs ls Z hF hl hR hS hE)
theorem aw_lload {i : Nat} {x : Int64} (hd : decode (aw_cc M) pc = .ok (.lload i, 2)) (hg : lv[i]? = some (.long x)) (kk : AW G M N0 d mc ms Q Ω I J k n lv (pc + 2) (.long x :: st)) : AW G M N0 d mc ms Q Ω I J k n lv pc (st) := by
  intro p e R s m args below meth c H locs ls Z hF hl hR hS hE
  exact lv_lload hF.1 hF.2.1 hd (aw_L_at hl hg (fun q => by cases q)) (kk p e R s m args below meth c H locs ls Z hF hl hR hS hE)
theorem aw_aload_n {z : Fin 4} {a : Nat} (hd : decode (aw_cc M) pc = .ok (.aload_n z, 1)) (hg : lv[(z : Nat)]? = some (.ref a)) (kk : AW G M N0 d mc ms Q Ω I J k n lv (pc + 1) (.ref a :: st)) : AW G M N0 d mc ms Q Ω I J k n lv pc (st) := by
  intro p e R s m args below meth c H locs ls Z hF hl hR hS hE
  exact lv_aload_n hF.1 hF.2.1 hd rfl (aw_L_at hl hg (fun q => by cases q)) (kk p e R s m args below meth c H locs ls Z hF hl hR hS hE)
theorem aw_aload {i : Nat} {a : Nat} (hd : decode (aw_cc M) pc = .ok (.aload i, 2)) (hg : lv[i]? = some (.ref a)) (kk : AW G M N0 d mc ms Q Ω I J k n lv (pc + 2) (.ref a :: st)) : AW G M N0 d mc ms Q Ω I J k n lv pc (st) := by
  intro p e R s m args below meth c H locs ls Z hF hl hR hS hE
  exact lv_aload hF.1 hF.2.1 hd (aw_L_at hl hg (fun q => by cases q)) (kk p e R s m args below meth c H locs ls Z hF hl hR hS hE)
theorem aw_istore_n {z : Fin 4} {x : Int32} (hd : decode (aw_cc M) pc = .ok (.istore_n z, 1)) (hn : (z : Nat) < aw_nL M) (kk : AW G M N0 d mc ms Q Ω I J k n (aw_st1 lv (z : Nat) (.int x)) (pc + 1) st) : AW G M N0 d mc ms Q Ω I J k n lv pc (.int x :: st) := by
  intro p e R s m args below meth c H locs ls Z hF hl hR hS hE
  exact lv_istore_n hF.1 hF.2.1 hd rfl hl hn rfl (fun ls' hl' => kk p e R s m args below meth c H locs ls' Z hF (aw_L_st1 hl') hR hS hE)
theorem aw_istore {i : Nat} {x : Int32} (hd : decode (aw_cc M) pc = .ok (.istore i, 2)) (hn : i < aw_nL M) (kk : AW G M N0 d mc ms Q Ω I J k n (aw_st1 lv i (.int x)) (pc + 2) st) : AW G M N0 d mc ms Q Ω I J k n lv pc (.int x :: st) := by
  intro p e R s m args below meth c H locs ls Z hF hl hR hS hE
  exact lv_istore hF.1 hF.2.1 hd hl hn rfl (fun ls' hl' => kk p e R s m args below meth c H locs ls' Z hF (aw_L_st1 hl') hR hS hE)
theorem aw_lstore_n {z : Fin 4} {x : Int64} (hd : decode (aw_cc M) pc = .ok (.lstore_n z, 1)) (hn : (z : Nat) + 1 < aw_nL M) (kk : AW G M N0 d mc ms Q Ω I J k n (aw_st2 lv (z : Nat) (.long x)) (pc + 1) st) : AW G M N0 d mc ms Q Ω I J k n lv pc (.long x :: st) := by
  intro p e R s m args below meth c H locs ls Z hF hl hR hS hE
  exact lv_lstore_n hF.1 hF.2.1 hd rfl hl hn rfl (fun ls' hl' => kk p e R s m args below meth c H locs ls' Z hF (aw_L_st2 hl') hR hS hE)
theorem aw_lstore {i : Nat} {x : Int64} (hd : decode (aw_cc M) pc = .ok (.lstore i, 2)) (hn : i + 1 < aw_nL M) (kk : AW G M N0 d mc ms Q Ω I J k n (aw_st2 lv i (.long x)) (pc + 2) st) : AW G M N0 d mc ms Q Ω I J k n lv pc (.long x :: st) := by
  intro p e R s m args below meth c H locs ls Z hF hl hR hS hE
  exact lv_lstore hF.1 hF.2.1 hd hl hn rfl (fun ls' hl' => kk p e R s m args below meth c H locs ls' Z hF (aw_L_st2 hl') hR hS hE)
theorem aw_astore_n {z : Fin 4} {x : Nat} (hd : decode (aw_cc M) pc = .ok (.astore_n z, 1)) (hn : (z : Nat) < aw_nL M) (kk : AW G M N0 d mc ms Q Ω I J k n (aw_st1 lv (z : Nat) (.ref x)) (pc + 1) st) : AW G M N0 d mc ms Q Ω I J k n lv pc (.ref x :: st) := by
  intro p e R s m args below meth c H locs ls Z hF hl hR hS hE
  exact lv_astore_n hF.1 hF.2.1 hd rfl hl hn rfl (fun ls' hl' => kk p e R s m args below meth c H locs ls' Z hF (aw_L_st1 hl') hR hS hE)
theorem aw_astore {i : Nat} {x : Nat} (hd : decode (aw_cc M) pc = .ok (.astore i, 2)) (hn : i < aw_nL M) (kk : AW G M N0 d mc ms Q Ω I J k n (aw_st1 lv i (.ref x)) (pc + 2) st) : AW G M N0 d mc ms Q Ω I J k n lv pc (.ref x :: st) := by
  intro p e R s m args below meth c H locs ls Z hF hl hR hS hE
  exact lv_astore hF.1 hF.2.1 hd hl hn rfl (fun ls' hl' => kk p e R s m args below meth c H locs ls' Z hF (aw_L_st1 hl') hR hS hE)
theorem aw_iinc {i : Nat} {z : Int} {x v : Int32} (hd : decode (aw_cc M) pc = .ok (.iinc i z, 3)) (hg : lv[i]? = some (.int x)) (hv : x + Int32.ofInt z = v) (hn : i < aw_nL M) (kk : AW G M N0 d mc ms Q Ω I J k n (aw_st1 lv i (.int v)) (pc + 3) st) : AW G M N0 d mc ms Q Ω I J k n lv pc st := by
  intro p e R s m args below meth c H locs ls Z hF hl hR hS hE
  obtain ⟨j, hj⟩ := List.getElem?_of_mem ((aw_al_mem lv 0 i (.int x)).mpr ⟨Nat.zero_le _, hg, fun q => by cases q⟩)
  exact lv_iinc hF.1 hF.2.1 hd hl hj hv hn rfl (fun ls' hl' => kk p e R s m args below meth c H locs ls' Z hF (aw_L_st1 hl') hR hS hE)
theorem aw_iadd {x y : Int32} (hd : decode (aw_cc M) pc = .ok (.iadd, 1)) (kk : AW G M N0 d mc ms Q Ω I J k n lv (pc + 1) (.int (x + y) :: st)) : AW G M N0 d mc ms Q Ω I J k n lv pc (.int y :: .int x :: st) := by
  intro p e R s m args below meth c H locs ls Z hF hl hR hS hE
  exact lv_iadd hF.1 hF.2.1 hd (kk p e R s m args below meth c H locs ls Z hF hl hR hS hE)
theorem aw_isub {x y : Int32} (hd : decode (aw_cc M) pc = .ok (.isub, 1)) (kk : AW G M N0 d mc ms Q Ω I J k n lv (pc + 1) (.int (x - y) :: st)) : AW G M N0 d mc ms Q Ω I J k n lv pc (.int y :: .int x :: st) := by
  intro p e R s m args below meth c H locs ls Z hF hl hR hS hE
  exact lv_isub hF.1 hF.2.1 hd (kk p e R s m args below meth c H locs ls Z hF hl hR hS hE)
theorem aw_imul {x y : Int32} (hd : decode (aw_cc M) pc = .ok (.imul, 1)) (kk : AW G M N0 d mc ms Q Ω I J k n lv (pc + 1) (.int (x * y) :: st)) : AW G M N0 d mc ms Q Ω I J k n lv pc (.int y :: .int x :: st) := by
  intro p e R s m args below meth c H locs ls Z hF hl hR hS hE
  exact lv_imul hF.1 hF.2.1 hd (kk p e R s m args below meth c H locs ls Z hF hl hR hS hE)
theorem aw_iand {x y : Int32} (hd : decode (aw_cc M) pc = .ok (.iand, 1)) (kk : AW G M N0 d mc ms Q Ω I J k n lv (pc + 1) (.int (x &&& y) :: st)) : AW G M N0 d mc ms Q Ω I J k n lv pc (.int y :: .int x :: st) := by
  intro p e R s m args below meth c H locs ls Z hF hl hR hS hE
  exact lv_iand hF.1 hF.2.1 hd (kk p e R s m args below meth c H locs ls Z hF hl hR hS hE)
theorem aw_ior {x y : Int32} (hd : decode (aw_cc M) pc = .ok (.ior, 1)) (kk : AW G M N0 d mc ms Q Ω I J k n lv (pc + 1) (.int (x ||| y) :: st)) : AW G M N0 d mc ms Q Ω I J k n lv pc (.int y :: .int x :: st) := by
  intro p e R s m args below meth c H locs ls Z hF hl hR hS hE
  exact lv_ior hF.1 hF.2.1 hd (kk p e R s m args below meth c H locs ls Z hF hl hR hS hE)
theorem aw_ixor {x y : Int32} (hd : decode (aw_cc M) pc = .ok (.ixor, 1)) (kk : AW G M N0 d mc ms Q Ω I J k n lv (pc + 1) (.int (x ^^^ y) :: st)) : AW G M N0 d mc ms Q Ω I J k n lv pc (.int y :: .int x :: st) := by
  intro p e R s m args below meth c H locs ls Z hF hl hR hS hE
  exact lv_ixor hF.1 hF.2.1 hd (kk p e R s m args below meth c H locs ls Z hF hl hR hS hE)
theorem aw_ishl {x y : Int32} (hd : decode (aw_cc M) pc = .ok (.ishl, 1)) (kk : AW G M N0 d mc ms Q Ω I J k n lv (pc + 1) (.int (x <<< (y &&& 31)) :: st)) : AW G M N0 d mc ms Q Ω I J k n lv pc (.int y :: .int x :: st) := by
  intro p e R s m args below meth c H locs ls Z hF hl hR hS hE
  exact lv_ishl hF.1 hF.2.1 hd (kk p e R s m args below meth c H locs ls Z hF hl hR hS hE)
theorem aw_ishr {x y : Int32} (hd : decode (aw_cc M) pc = .ok (.ishr, 1)) (kk : AW G M N0 d mc ms Q Ω I J k n lv (pc + 1) (.int (x >>> (y &&& 31)) :: st)) : AW G M N0 d mc ms Q Ω I J k n lv pc (.int y :: .int x :: st) := by
  intro p e R s m args below meth c H locs ls Z hF hl hR hS hE
  exact lv_ishr hF.1 hF.2.1 hd (kk p e R s m args below meth c H locs ls Z hF hl hR hS hE)
theorem aw_iushr {x y : Int32} (hd : decode (aw_cc M) pc = .ok (.iushr, 1)) (kk : AW G M N0 d mc ms Q Ω I J k n lv (pc + 1) (.int ((x.toUInt32 >>> (y.toUInt32 &&& Int32.toUInt32 31)).toInt32) :: st)) : AW G M N0 d mc ms Q Ω I J k n lv pc (.int y :: .int x :: st) := by
  intro p e R s m args below meth c H locs ls Z hF hl hR hS hE
  exact lv_iushr hF.1 hF.2.1 hd rfl (kk p e R s m args below meth c H locs ls Z hF hl hR hS hE)
theorem aw_irem {x y : Int32} (hd : decode (aw_cc M) pc = .ok (.irem, 1)) (hy : ¬ y = 0) (kk : AW G M N0 d mc ms Q Ω I J k n lv (pc + 1) (.int (x - x / y * y) :: st)) : AW G M N0 d mc ms Q Ω I J k n lv pc (.int y :: .int x :: st) := by
  intro p e R s m args below meth c H locs ls Z hF hl hR hS hE
  exact lv_irem hF.1 hF.2.1 hd hy (kk p e R s m args below meth c H locs ls Z hF hl hR hS hE)
theorem aw_ineg {x : Int32} (hd : decode (aw_cc M) pc = .ok (.ineg, 1)) (kk : AW G M N0 d mc ms Q Ω I J k n lv (pc + 1) (.int (-x) :: st)) : AW G M N0 d mc ms Q Ω I J k n lv pc (.int x :: st) := by
  intro p e R s m args below meth c H locs ls Z hF hl hR hS hE
  exact lv_ineg hF.1 hF.2.1 hd (kk p e R s m args below meth c H locs ls Z hF hl hR hS hE)
theorem aw_ladd {x y : Int64} (hd : decode (aw_cc M) pc = .ok (.ladd, 1)) (kk : AW G M N0 d mc ms Q Ω I J k n lv (pc + 1) (.long (x + y) :: st)) : AW G M N0 d mc ms Q Ω I J k n lv pc (.long y :: .long x :: st) := by
  intro p e R s m args below meth c H locs ls Z hF hl hR hS hE
  exact lv_ladd hF.1 hF.2.1 hd (kk p e R s m args below meth c H locs ls Z hF hl hR hS hE)
theorem aw_lsub {x y : Int64} (hd : decode (aw_cc M) pc = .ok (.lsub, 1)) (kk : AW G M N0 d mc ms Q Ω I J k n lv (pc + 1) (.long (x - y) :: st)) : AW G M N0 d mc ms Q Ω I J k n lv pc (.long y :: .long x :: st) := by
  intro p e R s m args below meth c H locs ls Z hF hl hR hS hE
  exact lv_lsub hF.1 hF.2.1 hd (kk p e R s m args below meth c H locs ls Z hF hl hR hS hE)
theorem aw_lmul {x y : Int64} (hd : decode (aw_cc M) pc = .ok (.lmul, 1)) (kk : AW G M N0 d mc ms Q Ω I J k n lv (pc + 1) (.long (x * y) :: st)) : AW G M N0 d mc ms Q Ω I J k n lv pc (.long y :: .long x :: st) := by
  intro p e R s m args below meth c H locs ls Z hF hl hR hS hE
  exact lv_lmul hF.1 hF.2.1 hd (kk p e R s m args below meth c H locs ls Z hF hl hR hS hE)
theorem aw_land {x y : Int64} (hd : decode (aw_cc M) pc = .ok (.land, 1)) (kk : AW G M N0 d mc ms Q Ω I J k n lv (pc + 1) (.long (x &&& y) :: st)) : AW G M N0 d mc ms Q Ω I J k n lv pc (.long y :: .long x :: st) := by
  intro p e R s m args below meth c H locs ls Z hF hl hR hS hE
  exact lv_land hF.1 hF.2.1 hd (kk p e R s m args below meth c H locs ls Z hF hl hR hS hE)
theorem aw_lor {x y : Int64} (hd : decode (aw_cc M) pc = .ok (.lor, 1)) (kk : AW G M N0 d mc ms Q Ω I J k n lv (pc + 1) (.long (x ||| y) :: st)) : AW G M N0 d mc ms Q Ω I J k n lv pc (.long y :: .long x :: st) := by
  intro p e R s m args below meth c H locs ls Z hF hl hR hS hE
  exact lv_lor hF.1 hF.2.1 hd (kk p e R s m args below meth c H locs ls Z hF hl hR hS hE)
theorem aw_lxor {x y : Int64} (hd : decode (aw_cc M) pc = .ok (.lxor, 1)) (kk : AW G M N0 d mc ms Q Ω I J k n lv (pc + 1) (.long (x ^^^ y) :: st)) : AW G M N0 d mc ms Q Ω I J k n lv pc (.long y :: .long x :: st) := by
  intro p e R s m args below meth c H locs ls Z hF hl hR hS hE
  exact lv_lxor hF.1 hF.2.1 hd (kk p e R s m args below meth c H locs ls Z hF hl hR hS hE)
theorem aw_ldiv {x y : Int64} (hd : decode (aw_cc M) pc = .ok (.ldiv, 1)) (hy : ¬ y = 0) (kk : AW G M N0 d mc ms Q Ω I J k n lv (pc + 1) (.long (x / y) :: st)) : AW G M N0 d mc ms Q Ω I J k n lv pc (.long y :: .long x :: st) := by
  intro p e R s m args below meth c H locs ls Z hF hl hR hS hE
  exact lv_ldiv hF.1 hF.2.1 hd hy (kk p e R s m args below meth c H locs ls Z hF hl hR hS hE)
theorem aw_lrem {x y : Int64} (hd : decode (aw_cc M) pc = .ok (.lrem, 1)) (hy : ¬ y = 0) (kk : AW G M N0 d mc ms Q Ω I J k n lv (pc + 1) (.long (x - x / y * y) :: st)) : AW G M N0 d mc ms Q Ω I J k n lv pc (.long y :: .long x :: st) := by
  intro p e R s m args below meth c H locs ls Z hF hl hR hS hE
  exact lv_lrem hF.1 hF.2.1 hd hy (kk p e R s m args below meth c H locs ls Z hF hl hR hS hE)
theorem aw_lneg {x : Int64} (hd : decode (aw_cc M) pc = .ok (.lneg, 1)) (kk : AW G M N0 d mc ms Q Ω I J k n lv (pc + 1) (.long (-x) :: st)) : AW G M N0 d mc ms Q Ω I J k n lv pc (.long x :: st) := by
  intro p e R s m args below meth c H locs ls Z hF hl hR hS hE
  exact lv_lneg hF.1 hF.2.1 hd (kk p e R s m args below meth c H locs ls Z hF hl hR hS hE)
theorem aw_lshl {x : Int64} {y : Int32} (hd : decode (aw_cc M) pc = .ok (.lshl, 1)) (kk : AW G M N0 d mc ms Q Ω I J k n lv (pc + 1) (.long (x <<< (y.toInt64 &&& 63)) :: st)) : AW G M N0 d mc ms Q Ω I J k n lv pc (.int y :: .long x :: st) := by
  intro p e R s m args below meth c H locs ls Z hF hl hR hS hE
  exact lv_lshl hF.1 hF.2.1 hd rfl (kk p e R s m args below meth c H locs ls Z hF hl hR hS hE)
theorem aw_lshr {x : Int64} {y : Int32} (hd : decode (aw_cc M) pc = .ok (.lshr, 1)) (kk : AW G M N0 d mc ms Q Ω I J k n lv (pc + 1) (.long (x >>> (y.toInt64 &&& 63)) :: st)) : AW G M N0 d mc ms Q Ω I J k n lv pc (.int y :: .long x :: st) := by
  intro p e R s m args below meth c H locs ls Z hF hl hR hS hE
  exact lv_lshr hF.1 hF.2.1 hd rfl (kk p e R s m args below meth c H locs ls Z hF hl hR hS hE)
theorem aw_i2l {x : Int32} (hd : decode (aw_cc M) pc = .ok (.i2l, 1)) (kk : AW G M N0 d mc ms Q Ω I J k n lv (pc + 1) (.long x.toInt64 :: st)) : AW G M N0 d mc ms Q Ω I J k n lv pc (.int x :: st) := by
  intro p e R s m args below meth c H locs ls Z hF hl hR hS hE
  exact lv_i2l hF.1 hF.2.1 hd rfl (kk p e R s m args below meth c H locs ls Z hF hl hR hS hE)
theorem aw_l2i {x : Int64} (hd : decode (aw_cc M) pc = .ok (.l2i, 1)) (kk : AW G M N0 d mc ms Q Ω I J k n lv (pc + 1) (.int x.toInt32 :: st)) : AW G M N0 d mc ms Q Ω I J k n lv pc (.long x :: st) := by
  intro p e R s m args below meth c H locs ls Z hF hl hR hS hE
  exact lv_l2i hF.1 hF.2.1 hd rfl (kk p e R s m args below meth c H locs ls Z hF hl hR hS hE)
theorem aw_i2b {x : Int32} (hd : decode (aw_cc M) pc = .ok (.i2b, 1)) (kk : AW G M N0 d mc ms Q Ω I J k n lv (pc + 1) (.int x.toInt8.toInt32 :: st)) : AW G M N0 d mc ms Q Ω I J k n lv pc (.int x :: st) := by
  intro p e R s m args below meth c H locs ls Z hF hl hR hS hE
  exact lv_i2b hF.1 hF.2.1 hd rfl (kk p e R s m args below meth c H locs ls Z hF hl hR hS hE)
theorem aw_lcmp {x y : Int64} (hd : decode (aw_cc M) pc = .ok (.lcmp, 1)) (kk : AW G M N0 d mc ms Q Ω I J k n lv (pc + 1) (.int (lg_cmp x y) :: st)) : AW G M N0 d mc ms Q Ω I J k n lv pc (.long y :: .long x :: st) := by
  intro p e R s m args below meth c H locs ls Z hF hl hR hS hE
  exact W.lcmp hF.1 hF.2.1 hd (kk p e R s m args below meth c H locs ls Z hF hl hR hS hE)
theorem aw_dup {v : Value} (hd : decode (aw_cc M) pc = .ok (.dup, 1)) (hv : v.category = 1) (kk : AW G M N0 d mc ms Q Ω I J k n lv (pc + 1) (v :: v :: st)) : AW G M N0 d mc ms Q Ω I J k n lv pc (v :: st) := by
  intro p e R s m args below meth c H locs ls Z hF hl hR hS hE
  exact lv_dup hF.1 hF.2.1 hd hv (kk p e R s m args below meth c H locs ls Z hF hl hR hS hE)
theorem aw_pop {v : Value} (hd : decode (aw_cc M) pc = .ok (.pop, 1)) (hv : v.category = 1) (kk : AW G M N0 d mc ms Q Ω I J k n lv (pc + 1) (st)) : AW G M N0 d mc ms Q Ω I J k n lv pc (v :: st) := by
  intro p e R s m args below meth c H locs ls Z hF hl hR hS hE
  exact lv_pop hF.1 hF.2.1 hd hv (kk p e R s m args below meth c H locs ls Z hF hl hR hS hE)
theorem aw_goto {off : Int} {t : Nat} (hd : decode (aw_cc M) pc = .ok (.goto off, 3)) (ht : (pc : Int) + off = (t : Int)) (kk : AW G M N0 d mc ms Q Ω I J k n lv (t) (st)) : AW G M N0 d mc ms Q Ω I J k n lv pc (st) := by
  intro p e R s m args below meth c H locs ls Z hF hl hR hS hE
  exact lv_goto hF.1 hF.2.1 hd ht (kk p e R s m args below meth c H locs ls Z hF hl hR hS hE)
theorem aw_ldcw {idx : Nat} {v : Int32} (hd : decode (aw_cc M) pc = .ok (.ldc_w idx, 3)) (hw : Cond.constant (aw_y M).cls idx v ∈ aw_tbl) (kk : AW G M N0 d mc ms Q Ω I J k n lv (pc + 3) (.int v :: st)) : AW G M N0 d mc ms Q Ω I J k n lv pc (st) := by
  intro p e R s m args below meth c H locs ls Z hF hl hR hS hE
  exact lv_ldcw hF.1 hF.2.1 hF.2.2.2.2.2.1 (hF.2.2.2.2.2.2.1 _ hw) hd (kk p e R s m args below meth c H locs ls Z hF hl hR hS hE)
theorem aw_ldc2 {idx : Nat} {v : Int64} (hd : decode (aw_cc M) pc = .ok (.ldc2_w idx, 3)) (hw : Cond.constantLong (aw_y M).cls idx v ∈ aw_tbl) (kk : AW G M N0 d mc ms Q Ω I J k n lv (pc + 3) (.long v :: st)) : AW G M N0 d mc ms Q Ω I J k n lv pc (st) := by
  intro p e R s m args below meth c H locs ls Z hF hl hR hS hE
  exact lv_ldc2 hF.1 hF.2.1 hF.2.2.2.2.2.1 (hF.2.2.2.2.2.2.1 _ hw) hd (kk p e R s m args below meth c H locs ls Z hF hl hR hS hE)
theorem aw_if_eq {x : Int32} {off : Int} {t : Nat} (hd : decode (aw_cc M) pc = .ok (.ifCond .eq off, 3)) (ht : (pc : Int) + off = (t : Int)) (kt : x = 0 → AW G M N0 d mc ms Q Ω I J k n lv t st) (kf : ¬ x = 0 → AW G M N0 d mc ms Q Ω I J k n lv (pc + 3) st) : AW G M N0 d mc ms Q Ω I J k n lv pc (.int x :: st) := by
  intro p e R s m args below meth c H locs ls Z hF hl hR hS hE
  exact lv_if_eq hF.1 hF.2.1 hd ht (fun q => kt q p e R s m args below meth c H locs ls Z hF hl hR hS hE) (fun q => kf q p e R s m args below meth c H locs ls Z hF hl hR hS hE)
theorem aw_if_ne {x : Int32} {off : Int} {t : Nat} (hd : decode (aw_cc M) pc = .ok (.ifCond .ne off, 3)) (ht : (pc : Int) + off = (t : Int)) (kt : ¬ x = 0 → AW G M N0 d mc ms Q Ω I J k n lv t st) (kf : x = 0 → AW G M N0 d mc ms Q Ω I J k n lv (pc + 3) st) : AW G M N0 d mc ms Q Ω I J k n lv pc (.int x :: st) := by
  intro p e R s m args below meth c H locs ls Z hF hl hR hS hE
  exact lv_if_ne hF.1 hF.2.1 hd ht (fun q => kt q p e R s m args below meth c H locs ls Z hF hl hR hS hE) (fun q => kf q p e R s m args below meth c H locs ls Z hF hl hR hS hE)
theorem aw_if_lt {x : Int32} {off : Int} {t : Nat} (hd : decode (aw_cc M) pc = .ok (.ifCond .lt off, 3)) (ht : (pc : Int) + off = (t : Int)) (kt : x < 0 → AW G M N0 d mc ms Q Ω I J k n lv t st) (kf : ¬ x < 0 → AW G M N0 d mc ms Q Ω I J k n lv (pc + 3) st) : AW G M N0 d mc ms Q Ω I J k n lv pc (.int x :: st) := by
  intro p e R s m args below meth c H locs ls Z hF hl hR hS hE
  exact lv_if_lt hF.1 hF.2.1 hd ht (fun q => kt q p e R s m args below meth c H locs ls Z hF hl hR hS hE) (fun q => kf q p e R s m args below meth c H locs ls Z hF hl hR hS hE)
theorem aw_if_ge {x : Int32} {off : Int} {t : Nat} (hd : decode (aw_cc M) pc = .ok (.ifCond .ge off, 3)) (ht : (pc : Int) + off = (t : Int)) (kt : 0 ≤ x → AW G M N0 d mc ms Q Ω I J k n lv t st) (kf : ¬ 0 ≤ x → AW G M N0 d mc ms Q Ω I J k n lv (pc + 3) st) : AW G M N0 d mc ms Q Ω I J k n lv pc (.int x :: st) := by
  intro p e R s m args below meth c H locs ls Z hF hl hR hS hE
  exact lv_if_ge hF.1 hF.2.1 hd ht (fun q => kt q p e R s m args below meth c H locs ls Z hF hl hR hS hE) (fun q => kf q p e R s m args below meth c H locs ls Z hF hl hR hS hE)
theorem aw_if_gt {x : Int32} {off : Int} {t : Nat} (hd : decode (aw_cc M) pc = .ok (.ifCond .gt off, 3)) (ht : (pc : Int) + off = (t : Int)) (kt : 0 < x → AW G M N0 d mc ms Q Ω I J k n lv t st) (kf : ¬ 0 < x → AW G M N0 d mc ms Q Ω I J k n lv (pc + 3) st) : AW G M N0 d mc ms Q Ω I J k n lv pc (.int x :: st) := by
  intro p e R s m args below meth c H locs ls Z hF hl hR hS hE
  exact lv_if_gt hF.1 hF.2.1 hd ht (fun q => kt q p e R s m args below meth c H locs ls Z hF hl hR hS hE) (fun q => kf q p e R s m args below meth c H locs ls Z hF hl hR hS hE)
theorem aw_if_le {x : Int32} {off : Int} {t : Nat} (hd : decode (aw_cc M) pc = .ok (.ifCond .le off, 3)) (ht : (pc : Int) + off = (t : Int)) (kt : x ≤ 0 → AW G M N0 d mc ms Q Ω I J k n lv t st) (kf : ¬ x ≤ 0 → AW G M N0 d mc ms Q Ω I J k n lv (pc + 3) st) : AW G M N0 d mc ms Q Ω I J k n lv pc (.int x :: st) := by
  intro p e R s m args below meth c H locs ls Z hF hl hR hS hE
  exact lv_if_le hF.1 hF.2.1 hd ht (fun q => kt q p e R s m args below meth c H locs ls Z hF hl hR hS hE) (fun q => kf q p e R s m args below meth c H locs ls Z hF hl hR hS hE)
theorem aw_icmp_eq {x y : Int32} {off : Int} {t : Nat} (hd : decode (aw_cc M) pc = .ok (.if_icmp .eq off, 3)) (ht : (pc : Int) + off = (t : Int)) (kt : x = y → AW G M N0 d mc ms Q Ω I J k n lv t st) (kf : ¬ x = y → AW G M N0 d mc ms Q Ω I J k n lv (pc + 3) st) : AW G M N0 d mc ms Q Ω I J k n lv pc (.int y :: .int x :: st) := by
  intro p e R s m args below meth c H locs ls Z hF hl hR hS hE
  exact lv_icmp_eq hF.1 hF.2.1 hd ht (fun q => kt q p e R s m args below meth c H locs ls Z hF hl hR hS hE) (fun q => kf q p e R s m args below meth c H locs ls Z hF hl hR hS hE)
theorem aw_icmp_ne {x y : Int32} {off : Int} {t : Nat} (hd : decode (aw_cc M) pc = .ok (.if_icmp .ne off, 3)) (ht : (pc : Int) + off = (t : Int)) (kt : ¬ x = y → AW G M N0 d mc ms Q Ω I J k n lv t st) (kf : x = y → AW G M N0 d mc ms Q Ω I J k n lv (pc + 3) st) : AW G M N0 d mc ms Q Ω I J k n lv pc (.int y :: .int x :: st) := by
  intro p e R s m args below meth c H locs ls Z hF hl hR hS hE
  exact lv_icmp_ne hF.1 hF.2.1 hd ht (fun q => kt q p e R s m args below meth c H locs ls Z hF hl hR hS hE) (fun q => kf q p e R s m args below meth c H locs ls Z hF hl hR hS hE)
theorem aw_icmp_lt {x y : Int32} {off : Int} {t : Nat} (hd : decode (aw_cc M) pc = .ok (.if_icmp .lt off, 3)) (ht : (pc : Int) + off = (t : Int)) (kt : x < y → AW G M N0 d mc ms Q Ω I J k n lv t st) (kf : ¬ x < y → AW G M N0 d mc ms Q Ω I J k n lv (pc + 3) st) : AW G M N0 d mc ms Q Ω I J k n lv pc (.int y :: .int x :: st) := by
  intro p e R s m args below meth c H locs ls Z hF hl hR hS hE
  exact lv_icmp_lt hF.1 hF.2.1 hd ht (fun q => kt q p e R s m args below meth c H locs ls Z hF hl hR hS hE) (fun q => kf q p e R s m args below meth c H locs ls Z hF hl hR hS hE)
theorem aw_icmp_ge {x y : Int32} {off : Int} {t : Nat} (hd : decode (aw_cc M) pc = .ok (.if_icmp .ge off, 3)) (ht : (pc : Int) + off = (t : Int)) (kt : y ≤ x → AW G M N0 d mc ms Q Ω I J k n lv t st) (kf : ¬ y ≤ x → AW G M N0 d mc ms Q Ω I J k n lv (pc + 3) st) : AW G M N0 d mc ms Q Ω I J k n lv pc (.int y :: .int x :: st) := by
  intro p e R s m args below meth c H locs ls Z hF hl hR hS hE
  exact lv_icmp_ge hF.1 hF.2.1 hd ht (fun q => kt q p e R s m args below meth c H locs ls Z hF hl hR hS hE) (fun q => kf q p e R s m args below meth c H locs ls Z hF hl hR hS hE)
theorem aw_icmp_gt {x y : Int32} {off : Int} {t : Nat} (hd : decode (aw_cc M) pc = .ok (.if_icmp .gt off, 3)) (ht : (pc : Int) + off = (t : Int)) (kt : y < x → AW G M N0 d mc ms Q Ω I J k n lv t st) (kf : ¬ y < x → AW G M N0 d mc ms Q Ω I J k n lv (pc + 3) st) : AW G M N0 d mc ms Q Ω I J k n lv pc (.int y :: .int x :: st) := by
  intro p e R s m args below meth c H locs ls Z hF hl hR hS hE
  exact lv_icmp_gt hF.1 hF.2.1 hd ht (fun q => kt q p e R s m args below meth c H locs ls Z hF hl hR hS hE) (fun q => kf q p e R s m args below meth c H locs ls Z hF hl hR hS hE)
theorem aw_icmp_le {x y : Int32} {off : Int} {t : Nat} (hd : decode (aw_cc M) pc = .ok (.if_icmp .le off, 3)) (ht : (pc : Int) + off = (t : Int)) (kt : x ≤ y → AW G M N0 d mc ms Q Ω I J k n lv t st) (kf : ¬ x ≤ y → AW G M N0 d mc ms Q Ω I J k n lv (pc + 3) st) : AW G M N0 d mc ms Q Ω I J k n lv pc (.int y :: .int x :: st) := by
  intro p e R s m args below meth c H locs ls Z hF hl hR hS hE
  exact lv_icmp_le hF.1 hF.2.1 hd ht (fun q => kt q p e R s m args below meth c H locs ls Z hF hl hR hS hE) (fun q => kf q p e R s m args below meth c H locs ls Z hF hl hR hS hE)
end AWR
end
section
/-! THE LAYER AW: fields, arrays, calls, ends -/
theorem aw_Dd {G : aw_G} {Ω : aw_O} {I : aw_MI} {J : aw_MJ} : va_D (aw_A G) (aw_ws G Ω I J) := by
  have key : ∀ (j : Nat) (q : Nat × va_E), (aw_ws G Ω I J)[j]? = some q → q.1 = aw_ad G j := by
    intro j q hj
    have hl : j < aw_nx Ω := by
      have := (List.getElem?_eq_some_iff.mp hj).1
      simpa [aw_ws] using this
    rw [aw_at hl] at hj
    rw [← Option.some.inj hj]
  refine ⟨fun i j x y hi hj hxy => ?_, fun j q hj => ?_⟩
  · have h1 := key i x hi
    have h2 := key j y hj
    unfold aw_ad at h1 h2
    omega
  · have h1 := key j q hj
    unfold aw_ad at h1
    show aw_bs G ≤ q.1
    omega
theorem aw_val_cong {G : aw_G} {Ω : aw_O} {I I' : aw_MI} {J J' : aw_MJ} {j : Nat} (h1 : I' j = I j) (h2 : J' j = J j) : aw_val G Ω I' J' j = aw_val G Ω I J j := by
  funext k t
  simp only [aw_val, h1, h2]
theorem aw_E_cong {G : aw_G} {Ω : aw_O} {I I' : aw_MI} {J J' : aw_MJ} {j : Nat} (h1 : I' j = I j) (h2 : J' j = J j) : aw_E G Ω I' J' j = aw_E G Ω I J j := by
  simp only [aw_E, aw_val_cong h1 h2, h1, h2]
/-- from the room: how large the heap is -/
theorem aw_sz {p : Program} {G : aw_G} {e : Env} {R : Room} {s : State} {m : MethodId} {args : Array Value} {below : List Frame} {meth : Method} {c : Code} {T : State} {locs : List Loc} {k n N0 : Nat} {Ω : aw_O} {I : aw_MI} {J : aw_MJ} {H : Heap} (X : Stand p (aw_l G) e R s m args below meth c T locs k n) (hT : T.heap = H) (hs : s.heap.size = aw_bs G + N0) (hN : aw_nx Ω = N0 + k) (hle : s.heap.size ≤ H.size) (hP : va_P (aw_D G) classes (aw_ws G Ω I J) H) : H.size = aw_bs G + aw_nx Ω := by
  have h1 := X.heapSize
  rw [hT, hs] at h1
  by_cases h0 : aw_nx Ω = 0
  · omega
  · have h2 := (hP (aw_nx Ω - 1) _ (aw_at (by omega))).lt
    have h3 : aw_bs G + (aw_nx Ω - 1) < H.size := h2
    omega
def aw_is (Ω : aw_O) (i : Nat) (S : aw_S) : Prop := i < aw_nx Ω ∧ aw_sh Ω i = S
/-- a class of the tables -/
def aw_C (ci : Nat) (C : String) (T : u_T) (N : Nat) (ty : Nat → FieldType) : Prop := classes[ci]? = some (C, T, N) ∧ (∀ w ∈ u_ws C T N, w ∈ aw_tbl) ∧ (∀ k, k < N → parseFieldDescriptor (T k).2.2.1 = some (ty k)) ∧ (∀ a, a < N → ∀ b, b < N → a ≠ b → (T a).2.1 ≠ (T b).2.1) ∧ aw_fty ci = (List.range N).map (fun k => aw_kd (ty k))
theorem aw_C0 : aw_C 0 RX0 TX0 5 tyX0 := ⟨rfl, by decide +kernel, tyX0_ok, nmX0, rfl⟩
theorem aw_C1 : aw_C 1 RX1 TX1 9 tyX1 := ⟨rfl, by decide +kernel, tyX1_ok, nmX1, rfl⟩
theorem aw_C2 : aw_C 2 RX2 TX2 2 tyX2 := ⟨rfl, by decide +kernel, tyX2_ok, nmX2, rfl⟩
theorem aw_C3 : aw_C 3 RX4 TX4 3 tyX4 := ⟨rfl, by decide +kernel, tyX4_ok, nmX4, rfl⟩
theorem aw_C4 : aw_C 4 RX5 TX5 3 tyX5 := ⟨rfl, by decide +kernel, tyX5_ok, nmX5, rfl⟩
theorem aw_C5 : aw_C 5 RX6 TX6 13 tyX6 := ⟨rfl, by decide +kernel, tyX6_ok, nmX6, rfl⟩
theorem aw_C6 : aw_C 6 RX7 TX7 9 tyX7 := ⟨rfl, by decide +kernel, tyX7_ok, nmX7, rfl⟩
theorem aw_C7 : aw_C 7 RX8 TX8 33 tyX8 := ⟨rfl, by decide +kernel, tyX8_ok, nmX8, rfl⟩
/-- in a class's code the index names field f, of kind t, of class ci -/
def aw_F (own : String) (idx ci f t : Nat) : Prop := ∃ (C : String) (T : u_T) (N : Nat) (ty : Nat → FieldType), aw_C ci C T N ty ∧ f < N ∧ Cond.fieldLink own idx (T f).1 (T f).2.1 (T f).2.2.1 ∈ aw_tbl ∧ aw_kd (ty f) = t
theorem aw_F.at {own : String} {idx ci f t : Nat} (h : aw_F own idx ci f t) : (aw_fty ci)[f]? = some t := by
  obtain ⟨C, T, N, ty, ⟨-, -, -, -, he⟩, hf, -, ht⟩ := h
  rw [he]
  simp [hf, ht]
theorem aw_E_obj {G : aw_G} {Ω : aw_O} {I : aw_MI} {J : aw_MJ} {i ci : Nat} (h : aw_is Ω i (.inl ci)) : (aw_ws G Ω I J)[i]? = some (aw_ad G i, .inr (ci, aw_fl (aw_val G Ω I J i) 0 (aw_fty ci))) := by
  rw [aw_at h.1]
  simp only [aw_E, h.2]
theorem aw_E_int {G : aw_G} {Ω : aw_O} {I : aw_MI} {J : aw_MJ} {i N : Nat} (h : aw_is Ω i (.inr (0, N))) : (aw_ws G Ω I J)[i]? = some (aw_ad G i, .inl (aw_cI G, N, .inl (I i))) := by
  rw [aw_at h.1]
  simp only [aw_E, h.2]
theorem aw_E_lng {G : aw_G} {Ω : aw_O} {I : aw_MI} {J : aw_MJ} {i N : Nat} (h : aw_is Ω i (.inr (1, N))) : (aw_ws G Ω I J)[i]? = some (aw_ad G i, .inl (aw_cJ G, N, .inr (.inl (J i)))) := by
  rw [aw_at h.1]
  simp only [aw_E, h.2]
theorem aw_E_row {G : aw_G} {Ω : aw_O} {I : aw_MI} {J : aw_MJ} {i N : Nat} (h : aw_is Ω i (.inr (2, N))) : (aw_ws G Ω I J)[i]? = some (aw_ad G i, .inl (aw_cR G, N, .inr (.inr (.inr (.inr (fun k => (aw_P Ω i k).map (aw_ad G))))))) := by
  rw [aw_at h.1]
  simp only [aw_E, h.2]
theorem aw_up_row (I : aw_MI) (i j : Nat) (x : Int32) : aw_up I i j x i = upd (I i) j x := by
  funext q
  simp [aw_up, upd]
theorem aw_up_rowL (J : aw_MJ) (i j : Nat) (x : Int64) : aw_up J i j x i = vp_updL (J i) j x := by
  funext q
  simp [aw_up, vp_updL]
theorem aw_nIc {j N : Nat} (hj : j < N) (hN : N ≤ 1000) : vp_in (nI j) N ∧ (nI j).toNatClampNeg = j := ⟨vp_in_nI hj (by omega), nI_clamp (by omega)⟩
section AWH
variable {G : aw_G} {M : aw_M} {N0 d mc ms : Nat} {Q : aw_Q} {Ω : aw_O} {I : aw_MI} {J : aw_MJ} {k n : Nat} {lv : List Value} {pc : Nat} {st : List Value}
theorem aw_getI {idx i ci f : Nat} (hd : decode (aw_cc M) pc = .ok (.getfield idx, 3)) (hf : aw_F (aw_y M).cls idx ci f 0) (hi : aw_is Ω i (.inl ci)) (kk : AW G M N0 d mc ms Q Ω I J k n lv (pc + 3) (.int (I i f) :: st)) : AW G M N0 d mc ms Q Ω I J k n lv pc (.ref (aw_ad G i) :: st) := by
  intro p e R s m args below meth c H locs ls Z hF hl hR hS hE
  have hfa := hf.at
  obtain ⟨C, T, N, ty, ⟨hc, hin, hty, hnm, -⟩, hk, hw, ht⟩ := hf
  exact va_get hF.1 hF.2.1 hF.2.2.2.2.2.2.1 hin hF.2.2.2.2.2.1 hF.2.2.2.2.2.2.2.1.1 hR.1 i (aw_E_obj hi) hc f hk (hF.2.2.2.2.2.2.1 _ hw) (fun _ h => h) (v := .int (I i f)) (by rw [aw_fl_get _ _ 0 f _ hfa]; simp [aw_val]) hd (kk p e R s m args below meth c H locs ls Z hF hl hR hS hE)
theorem aw_getZ {idx i ci f : Nat} (hd : decode (aw_cc M) pc = .ok (.getfield idx, 3)) (hf : aw_F (aw_y M).cls idx ci f 3) (hi : aw_is Ω i (.inl ci)) (kk : AW G M N0 d mc ms Q Ω I J k n lv (pc + 3) (.int (I i f) :: st)) : AW G M N0 d mc ms Q Ω I J k n lv pc (.ref (aw_ad G i) :: st) := by
  intro p e R s m args below meth c H locs ls Z hF hl hR hS hE
  have hfa := hf.at
  obtain ⟨C, T, N, ty, ⟨hc, hin, hty, hnm, -⟩, hk, hw, ht⟩ := hf
  exact va_get hF.1 hF.2.1 hF.2.2.2.2.2.2.1 hin hF.2.2.2.2.2.1 hF.2.2.2.2.2.2.2.1.1 hR.1 i (aw_E_obj hi) hc f hk (hF.2.2.2.2.2.2.1 _ hw) (fun _ h => h) (v := .int (I i f)) (by rw [aw_fl_get _ _ 0 f _ hfa]; simp [aw_val]) hd (kk p e R s m args below meth c H locs ls Z hF hl hR hS hE)
theorem aw_getJ {idx i ci f : Nat} (hd : decode (aw_cc M) pc = .ok (.getfield idx, 3)) (hf : aw_F (aw_y M).cls idx ci f 1) (hi : aw_is Ω i (.inl ci)) (kk : AW G M N0 d mc ms Q Ω I J k n lv (pc + 3) (.long (J i f) :: st)) : AW G M N0 d mc ms Q Ω I J k n lv pc (.ref (aw_ad G i) :: st) := by
  intro p e R s m args below meth c H locs ls Z hF hl hR hS hE
  have hfa := hf.at
  obtain ⟨C, T, N, ty, ⟨hc, hin, hty, hnm, -⟩, hk, hw, ht⟩ := hf
  exact va_get hF.1 hF.2.1 hF.2.2.2.2.2.2.1 hin hF.2.2.2.2.2.1 hF.2.2.2.2.2.2.2.1.1 hR.1 i (aw_E_obj hi) hc f hk (hF.2.2.2.2.2.2.1 _ hw) (fun _ h => h) (v := .long (J i f)) (by rw [aw_fl_get _ _ 0 f _ hfa]; simp [aw_val]) hd (kk p e R s m args below meth c H locs ls Z hF hl hR hS hE)
theorem aw_getR {idx i ci f r : Nat} (hd : decode (aw_cc M) pc = .ok (.getfield idx, 3)) (hf : aw_F (aw_y M).cls idx ci f 2) (hi : aw_is Ω i (.inl ci)) (hr : aw_P Ω i f = some r) (kk : AW G M N0 d mc ms Q Ω I J k n lv (pc + 3) (.ref (aw_ad G r) :: st)) : AW G M N0 d mc ms Q Ω I J k n lv pc (.ref (aw_ad G i) :: st) := by
  intro p e R s m args below meth c H locs ls Z hF hl hR hS hE
  have hfa := hf.at
  obtain ⟨C, T, N, ty, ⟨hc, hin, hty, hnm, -⟩, hk, hw, ht⟩ := hf
  exact va_get hF.1 hF.2.1 hF.2.2.2.2.2.2.1 hin hF.2.2.2.2.2.1 hF.2.2.2.2.2.2.2.1.1 hR.1 i (aw_E_obj hi) hc f hk (hF.2.2.2.2.2.2.1 _ hw) (fun _ h => h) (v := .ref (aw_ad G r)) (by rw [aw_fl_get _ _ 0 f _ hfa]; simp [aw_val, hr, va_rf]) hd (kk p e R s m args below meth c H locs ls Z hF hl hR hS hE)
/-- in a class's code the index names a field that is not final -/
def aw_Fw (own : String) (idx ci f t : Nat) : Prop := ∃ (C : String) (T : u_T) (N : Nat) (ty : Nat → FieldType), aw_C ci C T N ty ∧ f < N ∧ Cond.fieldLink own idx (T f).1 (T f).2.1 (T f).2.2.1 ∈ aw_tbl ∧ aw_kd (ty f) = t ∧ (T f).2.2.2 = false
theorem aw_Fw.F {own : String} {idx ci f t : Nat} (h : aw_Fw own idx ci f t) : aw_F own idx ci f t := by
  obtain ⟨C, T, N, ty, h1, h2, h3, h4, -⟩ := h
  exact ⟨C, T, N, ty, h1, h2, h3, h4⟩
theorem aw_kd0 {ty : FieldType} (h : aw_kd ty = 0) : ty = .int := by
  cases ty <;> first | rfl | simp [aw_kd] at h
theorem aw_kd1 {ty : FieldType} (h : aw_kd ty = 1) : ty = .long := by
  cases ty <;> first | rfl | simp [aw_kd] at h
theorem aw_kd3 {ty : FieldType} (h : aw_kd ty = 3) : ty = .boolean := by
  cases ty <;> first | rfl | simp [aw_kd] at h
theorem aw_putI {idx i ci f : Nat} {x : Int32} (hd : decode (aw_cc M) pc = .ok (.putfield idx, 3)) (hf : aw_Fw (aw_y M).cls idx ci f 0) (hi : aw_is Ω i (.inl ci)) (hN : aw_nx Ω = N0 + k) (kk : AW G M N0 d mc ms Q Ω (aw_up I i f x) J k n lv (pc + 3) st) : AW G M N0 d mc ms Q Ω I J k n lv pc (.int x :: .ref (aw_ad G i) :: st) := by
  intro p e R s m args below meth c H locs ls Z hF hl hR hS hE
  have hfa := hf.F.at
  obtain ⟨C, T, N, ty, ⟨hc, hin, hty, hnm, hft⟩, hk, hw, ht, hfin⟩ := hf
  have hi2 := aw_kd0 ht
  refine va_put hF.1 hF.2.1 hF.2.2.2.2.2.2.1 hin ty hty hnm hF.2.2.2.2.2.1 hF.2.2.2.2.2.2.2.1.1 hR.1 aw_Dd hS i (aw_E_obj hi) hc f hk (hF.2.2.2.2.2.2.1 _ hw) (fun _ h => h) hfin (ty := .int) (v := .int x) (by rw [hty f hk, hi2]) rfl rfl (by rw [aw_fl_len]; exact (List.getElem?_eq_some_iff.mp hfa).1) hd (fun H1 locs1 hP1 hD1 hS1 => ?_)
  have e1 : (aw_ws G Ω I J).set i (aw_ad G i, .inr (ci, (aw_fl (aw_val G Ω I J i) 0 (aw_fty ci)).set f (.int x))) = aw_ws G Ω (aw_up I i f x) J := by
    refine aw_set ?_ (fun j hj => aw_E_cong (aw_up_off I x hj) rfl)
    have e2 := aw_fl_set (aw_val G Ω I J i) (aw_val G Ω (aw_up I i f x) J i) (aw_fty ci) 0 f 0 hfa (fun j t' hj => by simp only [aw_val]; rw [aw_up_ne I x (Or.inr (by omega))])
    simp only [Nat.zero_add] at e2
    have e3 : aw_val G Ω (aw_up I i f x) J i f 0 = .int x := by simp [aw_val, aw_up_self]
    rw [e3] at e2
    rw [e2]
    simp only [aw_E, hi.2]
  rw [e1] at hP1
  intro T2 hT2 X
  exact kk p e R s m args below meth c H1 locs1 ls Z hF hl ⟨hP1, aw_sz X hT2 hF.2.2.2.2.2.2.2.2.2.2.2.2.2.1 hN hS1.1 hP1⟩ hS1 hE T2 hT2 X
theorem aw_putZ {idx i ci f : Nat} {x : Int32} (hd : decode (aw_cc M) pc = .ok (.putfield idx, 3)) (hf : aw_Fw (aw_y M).cls idx ci f 3) (hi : aw_is Ω i (.inl ci)) (hx : x = 0 ∨ x = 1) (hN : aw_nx Ω = N0 + k) (kk : AW G M N0 d mc ms Q Ω (aw_up I i f x) J k n lv (pc + 3) st) : AW G M N0 d mc ms Q Ω I J k n lv pc (.int x :: .ref (aw_ad G i) :: st) := by
  intro p e R s m args below meth c H locs ls Z hF hl hR hS hE
  have hfa := hf.F.at
  obtain ⟨C, T, N, ty, ⟨hc, hin, hty, hnm, hft⟩, hk, hw, ht, hfin⟩ := hf
  have hi2 := aw_kd3 ht
  refine va_put hF.1 hF.2.1 hF.2.2.2.2.2.2.1 hin ty hty hnm hF.2.2.2.2.2.1 hF.2.2.2.2.2.2.2.1.1 hR.1 aw_Dd hS i (aw_E_obj hi) hc f hk (hF.2.2.2.2.2.2.1 _ hw) (fun _ h => h) hfin (ty := .boolean) (v := .int x) (by rw [hty f hk, hi2]) (by rcases hx with rfl | rfl <;> decide) (by rcases hx with rfl | rfl <;> decide) (by rw [aw_fl_len]; exact (List.getElem?_eq_some_iff.mp hfa).1) hd (fun H1 locs1 hP1 hD1 hS1 => ?_)
  have e1 : (aw_ws G Ω I J).set i (aw_ad G i, .inr (ci, (aw_fl (aw_val G Ω I J i) 0 (aw_fty ci)).set f (.int x))) = aw_ws G Ω (aw_up I i f x) J := by
    refine aw_set ?_ (fun j hj => aw_E_cong (aw_up_off I x hj) rfl)
    have e2 := aw_fl_set (aw_val G Ω I J i) (aw_val G Ω (aw_up I i f x) J i) (aw_fty ci) 0 f 3 hfa (fun j t' hj => by simp only [aw_val]; rw [aw_up_ne I x (Or.inr (by omega))])
    simp only [Nat.zero_add] at e2
    have e3 : aw_val G Ω (aw_up I i f x) J i f 3 = .int x := by simp [aw_val, aw_up_self]
    rw [e3] at e2
    rw [e2]
    simp only [aw_E, hi.2]
  rw [e1] at hP1
  intro T2 hT2 X
  exact kk p e R s m args below meth c H1 locs1 ls Z hF hl ⟨hP1, aw_sz X hT2 hF.2.2.2.2.2.2.2.2.2.2.2.2.2.1 hN hS1.1 hP1⟩ hS1 hE T2 hT2 X
theorem aw_putJ {idx i ci f : Nat} {x : Int64} (hd : decode (aw_cc M) pc = .ok (.putfield idx, 3)) (hf : aw_Fw (aw_y M).cls idx ci f 1) (hi : aw_is Ω i (.inl ci)) (hN : aw_nx Ω = N0 + k) (kk : AW G M N0 d mc ms Q Ω I (aw_up J i f x) k n lv (pc + 3) st) : AW G M N0 d mc ms Q Ω I J k n lv pc (.long x :: .ref (aw_ad G i) :: st) := by
  intro p e R s m args below meth c H locs ls Z hF hl hR hS hE
  have hfa := hf.F.at
  obtain ⟨C, T, N, ty, ⟨hc, hin, hty, hnm, hft⟩, hk, hw, ht, hfin⟩ := hf
  have hi2 := aw_kd1 ht
  refine va_put hF.1 hF.2.1 hF.2.2.2.2.2.2.1 hin ty hty hnm hF.2.2.2.2.2.1 hF.2.2.2.2.2.2.2.1.1 hR.1 aw_Dd hS i (aw_E_obj hi) hc f hk (hF.2.2.2.2.2.2.1 _ hw) (fun _ h => h) hfin (ty := .long) (v := .long x) (by rw [hty f hk, hi2]) rfl rfl (by rw [aw_fl_len]; exact (List.getElem?_eq_some_iff.mp hfa).1) hd (fun H1 locs1 hP1 hD1 hS1 => ?_)
  have e1 : (aw_ws G Ω I J).set i (aw_ad G i, .inr (ci, (aw_fl (aw_val G Ω I J i) 0 (aw_fty ci)).set f (.long x))) = aw_ws G Ω I (aw_up J i f x) := by
    refine aw_set ?_ (fun j hj => aw_E_cong rfl (aw_up_off J x hj))
    have e2 := aw_fl_set (aw_val G Ω I J i) (aw_val G Ω I (aw_up J i f x) i) (aw_fty ci) 0 f 1 hfa (fun j t' hj => by simp only [aw_val]; rw [aw_up_ne J x (Or.inr (by omega))])
    simp only [Nat.zero_add] at e2
    have e3 : aw_val G Ω I (aw_up J i f x) i f 1 = .long x := by simp [aw_val, aw_up_self]
    rw [e3] at e2
    rw [e2]
    simp only [aw_E, hi.2]
  rw [e1] at hP1
  intro T2 hT2 X
  exact kk p e R s m args below meth c H1 locs1 ls Z hF hl ⟨hP1, aw_sz X hT2 hF.2.2.2.2.2.2.2.2.2.2.2.2.2.1 hN hS1.1 hP1⟩ hS1 hE T2 hT2 X
theorem aw_iald {i N j : Nat} {x : Int32} (hd : decode (aw_cc M) pc = .ok (.iaload, 1)) (hi : aw_is Ω i (.inr (0, N))) (hx : x = nI j) (hj : j < N) (kk : AW G M N0 d mc ms Q Ω I J k n lv (pc + 1) (.int (I i j) :: st)) (hN : N ≤ 1000 := by decide) : AW G M N0 d mc ms Q Ω I J k n lv pc (.int x :: .ref (aw_ad G i) :: st) := by
  intro p e R s m args below meth c H locs ls Z hF hl hR hS hE
  subst hx
  obtain ⟨h1, h2⟩ := aw_nIc hj hN
  refine va_iald hF.1 hF.2.1 hF.2.2.2.2.2.2.2.1.1 hR.1 i 0 (aw_E_int hi) rfl h1 hd ?_
  rw [h2]
  exact kk p e R s m args below meth c H locs ls Z hF hl hR hS hE
theorem aw_lald {i N j : Nat} {x : Int32} (hd : decode (aw_cc M) pc = .ok (.laload, 1)) (hi : aw_is Ω i (.inr (1, N))) (hx : x = nI j) (hj : j < N) (kk : AW G M N0 d mc ms Q Ω I J k n lv (pc + 1) (.long (J i j) :: st)) (hN : N ≤ 1000 := by decide) : AW G M N0 d mc ms Q Ω I J k n lv pc (.int x :: .ref (aw_ad G i) :: st) := by
  intro p e R s m args below meth c H locs ls Z hF hl hR hS hE
  subst hx
  obtain ⟨h1, h2⟩ := aw_nIc hj hN
  refine va_lald hF.1 hF.2.1 hF.2.2.2.2.2.2.2.1.1 hR.1 i 1 (aw_E_lng hi) rfl h1 hd ?_
  rw [h2]
  exact kk p e R s m args below meth c H locs ls Z hF hl hR hS hE
theorem aw_aald {i N j r : Nat} {x : Int32} (hd : decode (aw_cc M) pc = .ok (.aaload, 1)) (hi : aw_is Ω i (.inr (2, N))) (hx : x = nI j) (hj : j < N) (hr : aw_P Ω i j = some r) (kk : AW G M N0 d mc ms Q Ω I J k n lv (pc + 1) (.ref (aw_ad G r) :: st)) (hN : N ≤ 1000 := by decide) : AW G M N0 d mc ms Q Ω I J k n lv pc (.int x :: .ref (aw_ad G i) :: st) := by
  intro p e R s m args below meth c H locs ls Z hF hl hR hS hE
  subst hx
  obtain ⟨h1, h2⟩ := aw_nIc hj hN
  refine W.aald (v := .ref (aw_ad G r)) (ty := .array .long) hF.1 hF.2.1 (hR.1 i _ (aw_E_row hi)) ((hF.2.2.2.2.2.2.2.1.1.2 2 _ rfl).1 N (fun j => va_rf ((aw_P Ω i j).map (aw_ad G)))) rfl (fun q => by cases q) (by show ¬ (nI j < 0 ∨ (arrV _ _ _).slots.size ≤ _); rw [arrV_size]; exact h1) (by show (arrV _ _ _).slots[_]? = _; rw [h2, arrV_read _ _ hj]; show some (va_rf (Option.map (aw_ad G) (aw_P Ω i j))) = _; rw [hr]; rfl) rfl rfl hd ?_
  exact kk p e R s m args below meth c H locs ls Z hF hl hR hS hE
theorem aw_alen {i N t : Nat} (hd : decode (aw_cc M) pc = .ok (.arraylength, 1)) (hi : aw_is Ω i (.inr (t, N))) (kk : AW G M N0 d mc ms Q Ω I J k n lv (pc + 1) (.int (nI N) :: st)) (ht : t < 2 := by decide) : AW G M N0 d mc ms Q Ω I J k n lv pc (.ref (aw_ad G i) :: st) := by
  intro p e R s m args below meth c H locs ls Z hF hl hR hS hE
  have kk2 := kk p e R s m args below meth c H locs ls Z hF hl hR hS hE
  match t, hi, ht with
  | 0, hi, _ => exact va_alen hF.1 hF.2.1 hF.2.2.2.2.2.2.2.1.1 hR.1 i 0 (aw_E_int hi) rfl rfl hd kk2
  | 1, hi, _ => exact va_alen hF.1 hF.2.1 hF.2.2.2.2.2.2.2.1.1 hR.1 i 1 (aw_E_lng hi) rfl rfl hd kk2
  | t + 2, hi, ht => exact absurd ht (by omega)
theorem aw_iast {i N j : Nat} {x y : Int32} (hd : decode (aw_cc M) pc = .ok (.iastore, 1)) (hi : aw_is Ω i (.inr (0, N))) (hx : x = nI j) (hj : j < N) (hN0 : aw_nx Ω = N0 + k) (kk : AW G M N0 d mc ms Q Ω (aw_up I i j y) J k n lv (pc + 1) st) (hN : N ≤ 1000 := by decide) : AW G M N0 d mc ms Q Ω I J k n lv pc (.int y :: .int x :: .ref (aw_ad G i) :: st) := by
  intro p e R s m args below meth c H locs ls Z hF hl hR hS hE
  subst hx
  obtain ⟨h1, h2⟩ := aw_nIc hj hN
  refine va_iast hF.1 hF.2.1 hF.2.2.2.2.2.2.2.1.1 hR.1 aw_Dd hS i 0 (aw_E_int hi) rfl h1 hd (fun H1 locs1 hP1 hD1 hS1 => ?_)
  rw [h2] at hP1
  have e1 : (aw_ws G Ω I J).set i (aw_ad G i, .inl (aw_cI G, N, .inl (upd (I i) j y))) = aw_ws G Ω (aw_up I i j y) J := by
    refine aw_set ?_ (fun j' hj' => aw_E_cong (aw_up_off I y hj') rfl)
    simp only [aw_E, hi.2, aw_up_row]
  rw [e1] at hP1
  intro T2 hT2 X
  exact kk p e R s m args below meth c H1 locs1 ls Z hF hl ⟨hP1, aw_sz X hT2 hF.2.2.2.2.2.2.2.2.2.2.2.2.2.1 hN0 hS1.1 hP1⟩ hS1 hE T2 hT2 X
theorem aw_last {i N j : Nat} {x : Int32} {y : Int64} (hd : decode (aw_cc M) pc = .ok (.lastore, 1)) (hi : aw_is Ω i (.inr (1, N))) (hx : x = nI j) (hj : j < N) (hN0 : aw_nx Ω = N0 + k) (kk : AW G M N0 d mc ms Q Ω I (aw_up J i j y) k n lv (pc + 1) st) (hN : N ≤ 1000 := by decide) : AW G M N0 d mc ms Q Ω I J k n lv pc (.long y :: .int x :: .ref (aw_ad G i) :: st) := by
  intro p e R s m args below meth c H locs ls Z hF hl hR hS hE
  subst hx
  obtain ⟨h1, h2⟩ := aw_nIc hj hN
  refine va_last hF.1 hF.2.1 hF.2.2.2.2.2.2.2.1.1 hR.1 aw_Dd hS i 1 (aw_E_lng hi) rfl h1 hd (fun H1 locs1 hP1 hD1 hS1 => ?_)
  rw [h2] at hP1
  have e1 : (aw_ws G Ω I J).set i (aw_ad G i, .inl (aw_cJ G, N, .inr (.inl (vp_updL (J i) j y)))) = aw_ws G Ω I (aw_up J i j y) := by
    refine aw_set ?_ (fun j' hj' => aw_E_cong rfl (aw_up_off J y hj'))
    simp only [aw_E, hi.2, aw_up_rowL]
  rw [e1] at hP1
  intro T2 hT2 X
  exact kk p e R s m args below meth c H1 locs1 ls Z hF hl ⟨hP1, aw_sz X hT2 hF.2.2.2.2.2.2.2.2.2.2.2.2.2.1 hN0 hS1.1 hP1⟩ hS1 hE T2 hT2 X
end AWH
end
section
/-! THE LAYER AW: a method's end, its beginning, calls -/
def aw_rm (d mc ms : Nat) : Room := { frames := d, cells := mc, slots := ms, locals := 64 * d }
def aw_Qc (G : aw_G) (Q : aw_Q) : Array Value → State → Outcome → State → Prop := fun _ st o t => (∃ (v : Option Value) (Ω : aw_O) (I : aw_MI) (J : aw_MJ), o = .returned v ∧ Q v Ω I J ∧ aw_R G Ω I J t.heap) ∧ va_F (aw_A G) st t
/-- a method's contract: from these memories, with these arguments, it returns with Q -/
def aw_Call (G : aw_G) (M : aw_M) (d mc ms : Nat) (av : List Value) (Ω : aw_O) (I : aw_MI) (J : aw_MJ) (Q : aw_Q) : Prop :=
  Met (aw_l G) (aw_y M) (Cond.code (aw_y M) (aw_cc M) (aw_nL M) (aw_rt M) :: aw_tbl) (aw_rm d mc ms) (va_Pc av (fun U => aw_K G U ∧ aw_R G Ω I J U.heap)) (aw_Qc G Q) mc ms (aw_A G)
def aw_QI (Q : Int32 → aw_O → aw_MI → aw_MJ → Prop) : aw_Q := fun v Ω I J => ∃ x, v = some (.int x) ∧ Q x Ω I J
def aw_QL (Q : Int64 → aw_O → aw_MI → aw_MJ → Prop) : aw_Q := fun v Ω I J => ∃ x, v = some (.long x) ∧ Q x Ω I J
def aw_QV (Q : aw_O → aw_MI → aw_MJ → Prop) : aw_Q := fun v Ω I J => v = none ∧ Q Ω I J
theorem aw_over {s U : State} (hW : s.WarmedH U.vm) (h : (Cond.arrayOver (.array .long)).before #[] s = true) : (Cond.arrayOver (.array .long)).before #[] U = true := by
  have h2 : (Cond.arrayOver (.array .long)).before #[] (s.setVm U.vm) = true := by
    rw [Cond.arrayOver_setVmC hW.alike]
    exact h
  exact h2
theorem aw_K.moved {G : aw_G} {s U : State} (hW : s.WarmedH U.vm) (h : aw_K G s) : aw_K G U := by
  refine ⟨va_K.moved hW.alike h.1, fun w hw => ?_, aw_over hW h.2.2⟩
  have h1 := h.2.1 w hw
  simp only [aw_nest, List.mem_cons, List.not_mem_nil, or_false] at hw
  rcases hw with rfl | rfl | rfl | rfl <;> exact va_Nw.warmM hW h1
section AWE
variable {G : aw_G} {M : aw_M} {N0 d mc ms : Nat} {Ω : aw_O} {I : aw_MI} {J : aw_MJ} {k n : Nat} {lv : List Value} {pc : Nat} {st : List Value}
theorem aw_iret {Q : Int32 → aw_O → aw_MI → aw_MJ → Prop} {x : Int32} (hd : decode (aw_cc M) pc = .ok (.ireturn, 1)) (hr : aw_rt M = some .int) (h : Q x Ω I J) (hk : k ≤ mc) (hn : n ≤ ms) : AW G M N0 d mc ms (aw_QI Q) Ω I J k n lv pc [.int x] := by
  intro p e R s m args below meth c H locs ls Z hF hl hR hS hE
  exact hE (some (.int x)) Ω I J H locs k n pc ls ⟨x, rfl, h⟩ hR hS hk hn (Or.inl ⟨x, rfl, hd, .int, hr, rfl⟩)
theorem aw_zret {Q : Int32 → aw_O → aw_MI → aw_MJ → Prop} {x : Int32} (hd : decode (aw_cc M) pc = .ok (.ireturn, 1)) (hr : aw_rt M = some .boolean) (hx : x = 0 ∨ x = 1) (h : Q x Ω I J) (hk : k ≤ mc) (hn : n ≤ ms) : AW G M N0 d mc ms (aw_QI Q) Ω I J k n lv pc [.int x] := by
  intro p e R s m args below meth c H locs ls Z hF hl hR hS hE
  exact hE (some (.int x)) Ω I J H locs k n pc ls ⟨x, rfl, h⟩ hR hS hk hn (Or.inl ⟨x, rfl, hd, .boolean, hr, by rcases hx with rfl | rfl <;> decide⟩)
theorem aw_lret {Q : Int64 → aw_O → aw_MI → aw_MJ → Prop} {x : Int64} (hd : decode (aw_cc M) pc = .ok (.lreturn, 1)) (hr : aw_rt M = some .long) (h : Q x Ω I J) (hk : k ≤ mc) (hn : n ≤ ms) : AW G M N0 d mc ms (aw_QL Q) Ω I J k n lv pc [.long x] := by
  intro p e R s m args below meth c H locs ls Z hF hl hR hS hE
  exact hE (some (.long x)) Ω I J H locs k n pc ls ⟨x, rfl, h⟩ hR hS hk hn (Or.inr (Or.inl ⟨x, rfl, hd, hr⟩))
theorem aw_vret {Q : aw_O → aw_MI → aw_MJ → Prop} (hd : decode (aw_cc M) pc = .ok (.return_, 1)) (hr : aw_rt M = none) (h : Q Ω I J) (hk : k ≤ mc) (hn : n ≤ ms) : AW G M N0 d mc ms (aw_QV Q) Ω I J k n lv pc [] := by
  intro p e R s m args below meth c H locs ls Z hF hl hR hS hE
  exact hE none Ω I J H locs k n pc ls ⟨rfl, h⟩ hR hS hk hn (Or.inr (Or.inr ⟨rfl, hd, hr⟩))
theorem aw_QI.mono {Q Q' : Int32 → aw_O → aw_MI → aw_MJ → Prop} (h : ∀ x Ω I J, Q x Ω I J → Q' x Ω I J) : ∀ v Ω I J, aw_QI Q v Ω I J → aw_QI Q' v Ω I J := fun _ _ _ _ ⟨x, e, q⟩ => ⟨x, e, h _ _ _ _ q⟩
/-- a method's beginning -/
theorem aw_enter {Q : aw_Q} {av : List Value} (hy : plainName (aw_y M).cls = true) (hsc : aw_scr M = []) (hlen : (lg_sl av).length ≤ aw_nL M) (body : AW G M (aw_nx Ω) d mc ms Q Ω I J 0 0 (aw_in av ++ List.replicate (aw_nL M - (aw_in av).length) .null) 0 []) : aw_Call G M d mc ms av Ω I J Q := by
  refine Met.ofW (cc := aw_cc M) (maxL := aw_nL M) (ret := aw_rt M) hy rfl ?_
  intro p e s m args below meth c s₁ B hml hv
  obtain ⟨rfl, hK, hR⟩ := hv
  have hts := atoms_spec (ws := Cond.code (aw_y M) (aw_cc M) (aw_nL M) (aw_rt M) :: aw_tbl) B.pre
  have hown : s.vm.findClass (aw_y M).cls = some m.cls := findClass_of_methodNamed B.named
  have hnm : meth.name = (aw_y M).name := (name_of_methodNamed B.named B.method).1
  have hl0 := lv_entry av (n := aw_nL M) hlen
  rw [lg_entry_eq]
  generalize (lg_sl av ++ List.replicate (aw_nL M - (lg_sl av).length) Slot.unset).toArray = ls at hl0 ⊢
  have hl : aw_L ls (aw_nL M) (aw_in av ++ List.replicate (aw_nL M - (aw_in av).length) .null) := ⟨hl0.1, hl0.2.1, fun q hq => hl0.2.2 q (aw_in_mem av 0 q (aw_al_app _ 0 _ q hq))⟩
  refine body p e _ s m av.toArray below meth c s.heap [] ls _ ⟨B.exec, B.bytes, B.returns, B.notSynchronized, hml, hown, fun w hw => hts w (List.mem_cons_of_mem _ hw), hK, hnm, Nat.le_refl _, Nat.le_refl _, Nat.le_refl _, Nat.le_refl _, hR.2, fun q hq => by rw [hsc] at hq; cases hq⟩ hl hR va_S.rf ?_
  intro v Ω' I' J' H' locs' k' n' pc' ls' hq hR' hS' hk hn hrok
  refine W.widen (k := mc) (n := ms) hk hn ?_
  have hpost : ∀ t : State, t.heap = H' → aw_Qc G Q av.toArray s (.returned v) t := fun t ht => ⟨⟨v, Ω', I', J', rfl, hq, by rw [ht]; exact hR'⟩, hS'.F ht⟩
  have hlk := B.notSynchronized
  rcases hrok with ⟨x, rfl, hd, ty, hr, hn⟩ | ⟨x, rfl, hd, hr⟩ | ⟨rfl, hd, hr⟩
  · exact W.zret (ty := ty) B.exec B.bytes (B.returns.trans hr) hn (fun t ht _ => hpost t ht) hS'.2.2 hd
  · exact W.lret B.exec B.bytes (B.returns.trans hr) (fun t ht _ => hpost t ht) hS'.2.2 hd
  · exact W.vret B.exec B.bytes (B.returns.trans hr) (fun t ht _ => hpost t ht) hS'.2.2 hd
end AWE
/-- what comes back from a call -/
theorem aw_back {p : Program} {G : aw_G} {e : Env} {R : Room} {s : State} {m : MethodId} {args : Array Value} {below : List Frame} {meth : Method} {c : Code} {H : Heap} {locs : List Loc} {k n mc ms pc : Nat} {ls : Array Slot} {st rest : List Value} {a : Array Value} {Q : aw_Q} {Z : State → Prop}
    (hr : va_Run p (aw_l G) e R s m args below meth c H locs k n mc ms (F0 m pc ls st) rest (aw_Qc G Q a) (aw_A G)) (hS : va_S (aw_A G) s.heap H locs)
    (kk : ∀ (v : Option Value) (Ω : aw_O) (I : aw_MI) (J : aw_MJ) (H1 : Heap) (locs1 : List Loc), Q v Ω I J → aw_R G Ω I J H1 → va_S (aw_A G) s.heap H1 locs1 → W p (aw_l G) e R s m args below meth c H1 locs1 (k + mc) (n + ms) Z (F0 m (pc + 3) ls (v.toList ++ rest))) : W p (aw_l G) e R s m args below meth c H locs k n Z (F0 m pc ls st) := by
  intro T hT X
  obtain ⟨v, st₀, t, T', L, h0, X', hL, e1, e2, ⟨⟨v', Ω', I', J', hv, hq, hR'⟩, hz, hk⟩, stp⟩ := hr T hT X
  cases hv
  rw [h0] at hz hk
  obtain ⟨t2, a1, b1⟩ := kk v Ω' I' J' T'.heap (locs ++ L) hq (by rw [e1]; exact hR')
    ⟨Nat.le_trans hS.1 (by rw [e1]; exact hz), fun q h1 h2 => by rw [e1, hk q (Nat.lt_of_lt_of_le h1 hS.1) h2]; exact hS.2.1 q h1 h2, fun q hq => by
      rcases List.mem_append.mp hq with h | h
      · exact hS.2.2 q h
      · exact hL q h⟩ T' rfl X'
  exact ⟨t2, stp t2 a1, b1⟩
theorem aw_nest_on : ∀ w ∈ aw_nest, w.onTables = true := by
  intro w hw
  simp only [aw_nest, List.mem_cons, List.not_mem_nil, or_false] at hw
  rcases hw with rfl | rfl | rfl | rfl <;> rfl
theorem aw_blind {G : aw_G} {Ω : aw_O} {I : aw_MI} {J : aw_MJ} {av : List Value} : FrameBlind (va_Pc av (fun U => aw_K G U ∧ aw_R G Ω I J U.heap)) := by
  intro a U g mk q
  obtain ⟨q0, qK, qR⟩ := q
  exact ⟨q0, ⟨va_K.moved (u := U) (U := U.calling g mk a) (Vm.Alike.refl U.vm) qK.1, fun w hw => va_Nw.same (aw_nest_on w hw) (u := U) rfl (qK.2.1 w hw), qK.2.2⟩, qR⟩
theorem aw_pay {args : Array Value} {s : State} (ht : ∀ w ∈ aw_tbl, w.before args s = true) {y : MethodName} {cc : ByteArray} {nL : Nat} {rt : Option FieldType} (hc : Cond.code y cc nL rt ∈ aw_tbl) : ∀ w ∈ (Cond.code y cc nL rt :: aw_tbl), ∀ (a' : Array Value) (U : State), s.WarmedH U.vm → w.before a' U = true :=
  pay_in ht (aw_goodIn (fun w hw => by
    rcases List.mem_cons.mp hw with rfl | h
    · exact hc
    · exact h))
/-- a method of the tables that can be called -/
def aw_ok (M : aw_M) (np : Nat) : Prop := Cond.code (aw_y M) (aw_cc M) (aw_nL M) (aw_rt M) ∈ aw_tbl ∧ Cond.initialized (aw_y M).cls ∈ aw_tbl ∧ ((aw_y M).cls ≠ "java/lang/invoke/MethodHandle" ∧ (aw_y M).cls ≠ "java/lang/invoke/VarHandle") ∧ (parseMethodDescriptor (aw_y M).desc).map (fun d => d.parameters.length) = some np ∧ aw_nL M ≤ 45
theorem aw_cb {args : Array Value} {s : State} (ht : ∀ w ∈ aw_tbl, w.before args s = true) {R : Room} {own : String} {idx d mc ms np : Nat} {M : aw_M} (ho : aw_ok M np) (hl : Cond.methodLink own idx (aw_y M) ∈ aw_tbl) (hf : d + 1 ≤ R.frames) (hlo : 64 * (d + 1) ≤ R.locals) : CallB R s args own idx (aw_y M) (aw_cc M) (aw_nL M) (aw_rt M) (Cond.code (aw_y M) (aw_cc M) (aw_nL M) (aw_rt M) :: aw_tbl) (aw_rm d mc ms) mc ms np := by
  obtain ⟨h1, h2, h3, h4, h5⟩ := ho
  refine ⟨rfl, rfl, hf, ?_, aw_pay ht h1, List.mem_cons_self, ht _ h1, ht _ h2, h3, fun sig h => ?_, ht _ hl⟩
  · show 8 + (aw_nL M + 11) + 64 * d ≤ R.locals
    omega
  · rw [h] at h4
    exact (Option.some.inj h4).symm
section AWK
variable {G : aw_G} {M M' : aw_M} {N0 d d' mc ms mc' ms' : Nat} {Q : aw_Q} {Ω : aw_O} {I : aw_MI} {J : aw_MJ} {k n : Nat} {lv : List Value} {pc : Nat} {st : List Value}
/-- invokevirtual -/
theorem aw_cv {idx ci i np : Nat} {As rest : List Value} {Q' : aw_Q} (hd : decode (aw_cc M) pc = .ok (.invokevirtual idx, 3)) (hl : Cond.methodLink (aw_y M).cls idx (aw_y M') ∈ aw_tbl ∧ Cond.instanceMethod (aw_y M') ∈ aw_tbl ∧ Cond.selects (aw_y M').cls (aw_y M') (aw_y M') ∈ aw_tbl) (ho : aw_ok M' np) (hcl : (classes[ci]?).map (fun q => q.1) = some (aw_y M').cls) (hi : aw_is Ω i (.inl ci)) (hdd : d' + 1 ≤ d) (hn : As.length = np) (hst : st = As.reverse ++ .ref (aw_ad G i) :: rest) (hw : (rest.map fun v => v.category).sum ≤ 8) (hc : aw_Call G M' d' mc' ms' (.ref (aw_ad G i) :: As) Ω I J Q') (hm : k + mc' ≤ mc ∧ n + ms' ≤ ms)
    (kk : ∀ (v : Option Value) (Ω' : aw_O) (I' : aw_MI) (J' : aw_MJ), Q' v Ω' I' J' → AW G M N0 d mc ms Q Ω' I' J' (k + mc') (n + ms') lv (pc + 3) (v.toList ++ rest)) : AW G M N0 d mc ms Q Ω I J k n lv pc st := by
  intro p e R s m args below meth c H locs ls Z hF hL hR hS hE
  have hFx := hF
  obtain ⟨hx, hb, hr, hlk, hml, hown, hts, hK, hnm, hfr, hlo, hmc, hms, hsz, hsc⟩ := hF
  refine aw_back (va_runV (C := (aw_y M').cls) (As := As) (rest := rest) ⟨hx, hb, hml, hown, hts⟩ hc ⟨aw_cb hts ho hl.1 (Nat.le_trans hdd hfr) (by omega), hts _ hl.2.1, hts _ hl.2.2⟩ ⟨aw_blind, ?_, fun U hU hW => ⟨rfl, hK.moved hW, by rw [hU]; exact hR⟩⟩ rfl hn hL.1 hst (lv_room hw) hd ⟨by omega, by omega⟩) hS (fun v Ω' I' J' H1 locs1 hq hR1 hS1 => kk v Ω' I' J' hq p e R s m args below meth c H1 locs1 ls Z hFx hL hR1 hS1 hE)
  cases hq : classes[ci]? with
  | none => rw [hq] at hcl; cases hcl
  | some q =>
    rw [hq] at hcl
    have := va_recv hK.1 hR.1 hq (aw_E_obj (G := G) (I := I) (J := J) hi)
    have h9 : q.1 = (aw_y M').cls := Option.some.inj hcl
    rw [h9] at this
    exact this
/-- invokestatic -/
theorem aw_cs {idx np : Nat} {As rest : List Value} {Q' : aw_Q} (hd : decode (aw_cc M) pc = .ok (.invokestatic idx, 3)) (hl : Cond.methodLink (aw_y M).cls idx (aw_y M') ∈ aw_tbl ∧ Cond.static (aw_y M') ∈ aw_tbl) (ho : aw_ok M' np) (hdd : d' + 1 ≤ d) (hn : As.length = np) (hst : st = As.reverse ++ rest) (hw : (rest.map fun v => v.category).sum ≤ 8) (hc : aw_Call G M' d' mc' ms' As Ω I J Q') (hm : k + mc' ≤ mc ∧ n + ms' ≤ ms)
    (kk : ∀ (v : Option Value) (Ω' : aw_O) (I' : aw_MI) (J' : aw_MJ), Q' v Ω' I' J' → AW G M N0 d mc ms Q Ω' I' J' (k + mc') (n + ms') lv (pc + 3) (v.toList ++ rest)) : AW G M N0 d mc ms Q Ω I J k n lv pc st := by
  intro p e R s m args below meth c H locs ls Z hF hL hR hS hE
  have hFx := hF
  obtain ⟨hx, hb, hr, hlk, hml, hown, hts, hK, hnm, hfr, hlo, hmc, hms, hsz, hsc⟩ := hF
  exact aw_back (va_runS (As := As) (rest := rest) ⟨hx, hb, hml, hown, hts⟩ hc ⟨aw_cb hts ho hl.1 (Nat.le_trans hdd hfr) (by omega), hts _ hl.2⟩ ⟨aw_blind, fun U hU hW => ⟨rfl, hK.moved hW, by rw [hU]; exact hR⟩⟩ rfl hn hL.1 hst (lv_room hw) hd ⟨by omega, by omega⟩) hS (fun v Ω' I' J' H1 locs1 hq hR1 hS1 => kk v Ω' I' J' hq p e R s m args below meth c H1 locs1 ls Z hFx hL hR1 hS1 hE)
end AWK
end
section
/-! THE LAYER AW: the methods, what their code links (printed by my program gen_links.py) -/
theorem aw_pl {w : Cond} (i : Nat) (h : lw_tbl[i]? = some w) (hg : goodWord w = true) : w ∈ aw_tbl := List.mem_filter.mpr ⟨List.mem_of_getElem? h, hg⟩
/-- a virtual call: in a class's code the index names this method of class ci -/
def aw_LV (own : String) (idx ci np : Nat) (M : aw_M) : Prop := (Cond.methodLink own idx (aw_y M) ∈ aw_tbl ∧ Cond.instanceMethod (aw_y M) ∈ aw_tbl ∧ Cond.selects (aw_y M).cls (aw_y M) (aw_y M) ∈ aw_tbl) ∧ aw_ok M np ∧ (classes[ci]?).map (fun q => q.1) = some (aw_y M).cls
def aw_LS (own : String) (idx np : Nat) (M : aw_M) : Prop := (Cond.methodLink own idx (aw_y M) ∈ aw_tbl ∧ Cond.static (aw_y M) ∈ aw_tbl) ∧ aw_ok M np
abbrev MX0_init : aw_M := (yX0_init, cX0_init, 1, none, [])
abbrev MX0_write : aw_M := (yX0_write, cX0_write, 2, none, [])
abbrev MX0_offer : aw_M := (yX0_offer, cX0_offer, 5, none, [])
abbrev MX0_lastBut : aw_M := (yX0_lastBut, cX0_lastBut, 2, (some .int), [])
abbrev MX1_init : aw_M := (yX1_init, cX1_init, 1, none, [])
abbrev MX1_begin : aw_M := (yX1_begin, cX1_begin, 2, none, [])
abbrev MX1_makeRound : aw_M := (yX1_makeRound, cX1_makeRound, 2, none, [])
abbrev MX1_become : aw_M := (yX1_become, cX1_become, 2, none, [])
abbrev MX1_bendOf : aw_M := (yX1_bendOf, cX1_bendOf, 3, (some .int), [])
abbrev MX1_putBend : aw_M := (yX1_putBend, cX1_putBend, 4, none, [])
abbrev MX1_addLine : aw_M := (yX1_addLine, cX1_addLine, 6, (some .int), [])
abbrev MX1_removeLine : aw_M := (yX1_removeLine, cX1_removeLine, 3, none, [])
abbrev MX1_isOn : aw_M := (yX1_isOn, cX1_isOn, 2, (some .boolean), [])
abbrev MX1_rowOf : aw_M := (yX1_rowOf, cX1_rowOf, 4, (some .int), [])
abbrev MX1_boundOf : aw_M := (yX1_boundOf, cX1_boundOf, 4, (some .int), [])
abbrev MX1_driftOf : aw_M := (yX1_driftOf, cX1_driftOf, 2, (some .int), [])
abbrev MX1_linesOn : aw_M := (yX1_linesOn, cX1_linesOn, 3, (some .int), [])
abbrev MX1_allLines : aw_M := (yX1_allLines, cX1_allLines, 1, (some .int), [])
abbrev MX1_determinant : aw_M := (yX1_determinant, cX1_determinant, 4, (some .int), [])
abbrev MX1_hasLeast : aw_M := (yX1_hasLeast, cX1_hasLeast, 2, (some .boolean), [])
abbrev MX1_squareOfPushes : aw_M := (yX1_squareOfPushes, cX1_squareOfPushes, 4, (some .long), [])
abbrev MX1_leftOf : aw_M := (yX1_leftOf, cX1_leftOf, 7, (some .long), [])
abbrev MX1_isHeldBy : aw_M := (yX1_isHeldBy, cX1_isHeldBy, 4, (some .boolean), [])
abbrev MX2_init : aw_M := (yX2_init, cX2_init, 2, none, [])
abbrev MX2_length : aw_M := (yX2_length, cX2_length, 1, (some .int), [])
abbrev MX2_tell : aw_M := (yX2_tell, cX2_tell, 8, none, [])
abbrev MX2_sharedBy : aw_M := (yX2_sharedBy, cX2_sharedBy, 5, (some .long), [])
abbrev MX2_take : aw_M := (yX2_take, cX2_take, 5, none, [])
abbrev MX2_firstWrong : aw_M := (yX2_firstWrong, cX2_firstWrong, 1, (some .int), [])
abbrev MX2_slackOf : aw_M := (yX2_slackOf, cX2_slackOf, 2, (some .long), [])
abbrev MX2_isBalanced : aw_M := (yX2_isBalanced, cX2_isBalanced, 5, (some .boolean), [])
abbrev MX2_isWeighedRight : aw_M := (yX2_isWeighedRight, cX2_isWeighedRight, 2, (some .boolean), [])
abbrev MX2_isHeld : aw_M := (yX2_isHeld, cX2_isHeld, 2, (some .boolean), [])
abbrev MX2_isWeightOnlyWhereTight : aw_M := (yX2_isWeightOnlyWhereTight, cX2_isWeightOnlyWhereTight, 2, (some .boolean), [])
abbrev MX3_told : aw_M := (yX3_told, cX3_told, 7, (some .long), [])
abbrev MX3_shared : aw_M := (yX3_shared, cX3_shared, 11, (some .long), [])
abbrev MX3_isLess : aw_M := (yX3_isLess, cX3_isLess, 25, (some .boolean), [])
abbrev MX4_init : aw_M := (yX4_init, cX4_init, 1, none, [])
abbrev MX5_init : aw_M := (yX5_init, cX5_init, 1, none, [])
abbrev MX5_begin : aw_M := (yX5_begin, cX5_begin, 5, none, [])
abbrev MX5_at : aw_M := (yX5_at, cX5_at, 3, (some .long), [])
abbrev MX5_put : aw_M := (yX5_put, cX5_put, 5, none, [])
abbrev MX5_hasRoom : aw_M := (yX5_hasRoom, cX5_hasRoom, 4, (some .boolean), [])
abbrev MX5_move : aw_M := (yX5_move, cX5_move, 6, none, [])
abbrev MX5_isAllWithin : aw_M := (yX5_isAllWithin, cX5_isAllWithin, 5, (some .boolean), [])
abbrev MX6_init : aw_M := (yX6_init, cX6_init, 2, none, [])
abbrev MX6_find : aw_M := (yX6_find, cX6_find, 4, (some .int), [])
abbrev MX6_meet : aw_M := (yX6_meet, cX6_meet, 2, (some .boolean), [])
abbrev MX6_gather : aw_M := (yX6_gather, cX6_gather, 4, none, [])
abbrev MX6_fillBowlRows : aw_M := (yX6_fillBowlRows, cX6_fillBowlRows, 4, none, [])
abbrev MX6_fillLineRows : aw_M := (yX6_fillLineRows, cX6_fillLineRows, 5, none, [])
abbrev MX6_eliminate : aw_M := (yX6_eliminate, cX6_eliminate, 7, (some .boolean), [])
abbrev MX6_clearRow : aw_M := (yX6_clearRow, cX6_clearRow, 11, none, [])
abbrev MX6_layAt : aw_M := (yX6_layAt, cX6_layAt, 9, none, [])
abbrev MX6_fits : aw_M := (yX6_fits, cX6_fits, 3, (some .boolean), [])
abbrev MX6_slackOf : aw_M := (yX6_slackOf, cX6_slackOf, 2, (some .long), [])
abbrev MX6_heldLines : aw_M := (yX6_heldLines, cX6_heldLines, 3, (some .int), [])
abbrev MX6_tightLines : aw_M := (yX6_tightLines, cX6_tightLines, 3, (some .int), [])
abbrev MX6_twiceWorth : aw_M := (yX6_twiceWorth, cX6_twiceWorth, 4, (some .long), [])
abbrev MX6_goPath : aw_M := (yX6_goPath, cX6_goPath, 4, (some .boolean), [])
abbrev MX6_changesTo : aw_M := (yX6_changesTo, cX6_changesTo, 5, (some .int), [])
abbrev MX6_claimTides : aw_M := (yX6_claimTides, cX6_claimTides, 5, none, [])
abbrev MX6_findReach : aw_M := (yX6_findReach, cX6_findReach, 4, (some .boolean), [])
abbrev MX6_limitReach : aw_M := (yX6_limitReach, cX6_limitReach, 5, none, [])
abbrev MX7_init : aw_M := (yX7_init, cX7_init, 1, none, [])
abbrev MX7_size : aw_M := (yX7_size, cX7_size, 3, (some .int), [])
abbrev MX7_bend : aw_M := (yX7_bend, cX7_bend, 5, (some .int), [])
abbrev MX7_push : aw_M := (yX7_push, cX7_push, 4, (some .int), [])
abbrev MX7_tide : aw_M := (yX7_tide, cX7_tide, 3, (some .int), [])
abbrev MX7_line : aw_M := (yX7_line, cX7_line, 4, (some .int), [])
abbrev MX7_slope : aw_M := (yX7_slope, cX7_slope, 5, (some .int), [])
abbrev MX7_change : aw_M := (yX7_change, cX7_change, 6, (some .int), [])
abbrev MX7_drop : aw_M := (yX7_drop, cX7_drop, 2, (some .int), [])
abbrev MX7_lineOf : aw_M := (yX7_lineOf, cX7_lineOf, 3, (some .int), [])
abbrev MX7_minor : aw_M := (yX7_minor, cX7_minor, 2, (some .int), [])
abbrev MX7_isProper : aw_M := (yX7_isProper, cX7_isProper, 1, (some .int), [])
abbrev MX7_working : aw_M := (yX7_working, cX7_working, 2, (some .int), [])
abbrev MX7_answer : aw_M := (yX7_answer, cX7_answer, 5, (some .long), [])
abbrev MX7_worth : aw_M := (yX7_worth, cX7_worth, 4, (some .long), [])
abbrev MX7_weight : aw_M := (yX7_weight, cX7_weight, 5, (some .long), [])
abbrev MX7_slack : aw_M := (yX7_slack, cX7_slack, 5, (some .long), [])
abbrev MX7_held : aw_M := (yX7_held, cX7_held, 3, (some .int), [])
abbrev MX7_tight : aw_M := (yX7_tight, cX7_tight, 3, (some .int), [])
abbrev MX7_steps : aw_M := (yX7_steps, cX7_steps, 1, (some .int), [])
abbrev MX7_walk : aw_M := (yX7_walk, cX7_walk, 2, (some .int), [])
abbrev MX7_pieces : aw_M := (yX7_pieces, cX7_pieces, 2, (some .int), [])
abbrev MX7_reach : aw_M := (yX7_reach, cX7_reach, 3, (some .long), [])
abbrev MX7_nearest : aw_M := (yX7_nearest, cX7_nearest, 7, (some .long), [])
abbrev MX7_distance : aw_M := (yX7_distance, cX7_distance, 8, (some .long), [])
abbrev MX7_certify : aw_M := (yX7_certify, cX7_certify, 3, (some .int), [])
abbrev MX7_check : aw_M := (yX7_check, cX7_check, 2, (some .int), [])
abbrev MX7_solve : aw_M := (yX7_solve, cX7_solve, 2, (some .int), [])
abbrev MX7_notes : aw_M := (yX7_notes, cX7_notes, 1, (some .int), [])
abbrev MX7_mark : aw_M := (yX7_mark, cX7_mark, 1, (some .long), [])
abbrev MX7_trail : aw_M := (yX7_trail, cX7_trail, 2, (some .int), [])
abbrev MX7_least : aw_M := (yX7_least, cX7_least, 2, (some .long), [])
abbrev MX7_sheet : aw_M := (yX7_sheet, cX7_sheet, 5, (some .int), [])
abbrev MX7_cell : aw_M := (yX7_cell, cX7_cell, 6, (some .int), [])
abbrev MX7_read : aw_M := (yX7_read, cX7_read, 4, (some .long), [])
abbrev MX7_copy : aw_M := (yX7_copy, cX7_copy, 6, (some .int), [])
abbrev MX7_image : aw_M := (yX7_image, cX7_image, 1, (some .int), [])
abbrev MX7_back : aw_M := (yX7_back, cX7_back, 1, (some .int), [])
abbrev MX7_count : aw_M := (yX7_count, cX7_count, 2, (some .int), [])
abbrev MX7_isVariable : aw_M := (yX7_isVariable, cX7_isVariable, 2, (some .boolean), [])
abbrev MX7_isLine : aw_M := (yX7_isLine, cX7_isLine, 2, (some .boolean), [])
abbrev MX7_isSet : aw_M := (yX7_isSet, cX7_isSet, 2, (some .boolean), [])
abbrev MX7_isOf : aw_M := (yX7_isOf, cX7_isOf, 2, (some .boolean), [])
abbrev MX7_isPart : aw_M := (yX7_isPart, cX7_isPart, 1, (some .boolean), [])
abbrev MX7_isSheet : aw_M := (yX7_isSheet, cX7_isSheet, 1, (some .boolean), [])
abbrev MX7_isKind : aw_M := (yX7_isKind, cX7_isKind, 1, (some .boolean), [])
abbrev MX7_isWithin : aw_M := (yX7_isWithin, cX7_isWithin, 2, (some .boolean), [])
abbrev MX7_isBend : aw_M := (yX7_isBend, cX7_isBend, 2, (some .boolean), [])
abbrev MX7_isChange : aw_M := (yX7_isChange, cX7_isChange, 2, (some .boolean), [])
abbrev MX7_refusedCell : aw_M := (yX7_refusedCell, cX7_refusedCell, 3, (some .int), [])
abbrev MX7_find : aw_M := (yX7_find, cX7_find, 3, (some .int), [])
abbrev MX7_findNear : aw_M := (yX7_findNear, cX7_findNear, 5, (some .int), [])
abbrev MX8_init : aw_M := (yX8_init, cX8_init, 1, none, [])
abbrev MX8_in : aw_M := (yX8_in, cX8_in, 6, (some .boolean), [])
abbrev MX8_has : aw_M := (yX8_has, cX8_has, 2, (some .boolean), [])
abbrev MX8_isPart : aw_M := (yX8_isPart, cX8_isPart, 1, (some .boolean), [])
abbrev MX8_refused : aw_M := (yX8_refused, cX8_refused, 1, (some .long), [])
abbrev MX8_divisor : aw_M := (yX8_divisor, cX8_divisor, 10, (some .long), [])
abbrev MX8_lowest : aw_M := (yX8_lowest, cX8_lowest, 7, (some .long), [])
abbrev MX8_isLess : aw_M := (yX8_isLess, cX8_isLess, 16, (some .boolean), [])
abbrev MX8_isVariable : aw_M := (yX8_isVariable, cX8_isVariable, 2, (some .boolean), [])
abbrev MX8_isLine : aw_M := (yX8_isLine, cX8_isLine, 2, (some .boolean), [])
abbrev MX8_isSet : aw_M := (yX8_isSet, cX8_isSet, 2, (some .boolean), [])
abbrev MX8_all : aw_M := (yX8_all, cX8_all, 1, (some .int), [])
abbrev MX8_size : aw_M := (yX8_size, cX8_size, 4, (some .int), [])
abbrev MX8_bend : aw_M := (yX8_bend, cX8_bend, 5, (some .int), [])
abbrev MX8_push : aw_M := (yX8_push, cX8_push, 4, (some .int), [])
abbrev MX8_tide : aw_M := (yX8_tide, cX8_tide, 3, (some .int), [])
abbrev MX8_line : aw_M := (yX8_line, cX8_line, 6, (some .int), [])
abbrev MX8_becomes : aw_M := (yX8_becomes, cX8_becomes, 4, (some .int), [])
abbrev MX8_slope : aw_M := (yX8_slope, cX8_slope, 4, (some .int), [])
abbrev MX8_change : aw_M := (yX8_change, cX8_change, 5, (some .int), [])
abbrev MX8_drop : aw_M := (yX8_drop, cX8_drop, 3, (some .int), [])
abbrev MX8_row : aw_M := (yX8_row, cX8_row, 5, (some .int), [])
abbrev MX8_bound : aw_M := (yX8_bound, cX8_bound, 4, (some .int), [])
abbrev MX8_rise : aw_M := (yX8_rise, cX8_rise, 3, (some .int), [])
abbrev MX8_isOn : aw_M := (yX8_isOn, cX8_isOn, 2, (some .boolean), [])
abbrev MX8_lineOf : aw_M := (yX8_lineOf, cX8_lineOf, 3, (some .int), [])
abbrev MX8_determinant : aw_M := (yX8_determinant, cX8_determinant, 9, (some .long), [])
abbrev MX8_minorOf : aw_M := (yX8_minorOf, cX8_minorOf, 4, (some .int), [])
abbrev MX8_minor : aw_M := (yX8_minor, cX8_minor, 2, (some .int), [])
abbrev MX8_proper : aw_M := (yX8_proper, cX8_proper, 3, (some .boolean), [])
abbrev MX8_isProper : aw_M := (yX8_isProper, cX8_isProper, 1, (some .int), [])
abbrev MX8_laysCells : aw_M := (yX8_laysCells, cX8_laysCells, 4, none, [])
abbrev MX8_instead : aw_M := (yX8_instead, cX8_instead, 7, (some .long), [])
abbrev MX8_laysSome : aw_M := (yX8_laysSome, cX8_laysSome, 4, (some .int), [])
abbrev MX8_tells : aw_M := (yX8_tells, cX8_tells, 8, none, [])
abbrev MX8_finds : aw_M := (yX8_finds, cX8_finds, 6, (some .boolean), [])
abbrev MX8_findsRise : aw_M := (yX8_findsRise, cX8_findsRise, 5, none, [])
abbrev MX8_slackOf : aw_M := (yX8_slackOf, cX8_slackOf, 5, (some .long), [])
abbrev MX8_holds : aw_M := (yX8_holds, cX8_holds, 4, (some .boolean), [])
abbrev MX8_isRight : aw_M := (yX8_isRight, cX8_isRight, 4, (some .boolean), [])
abbrev MX8_works : aw_M := (yX8_works, cX8_works, 3, (some .int), [])
abbrev MX8_working : aw_M := (yX8_working, cX8_working, 2, (some .int), [])
abbrev MX8_lacks : aw_M := (yX8_lacks, cX8_lacks, 3, (some .int), [])
abbrev MX8_answer : aw_M := (yX8_answer, cX8_answer, 5, (some .long), [])
abbrev MX8_worthOf : aw_M := (yX8_worthOf, cX8_worthOf, 4, (some .long), [])
abbrev MX8_worth : aw_M := (yX8_worth, cX8_worth, 4, (some .long), [])
abbrev MX8_weight : aw_M := (yX8_weight, cX8_weight, 5, (some .long), [])
abbrev MX8_slack : aw_M := (yX8_slack, cX8_slack, 5, (some .long), [])
abbrev MX8_heldNow : aw_M := (yX8_heldNow, cX8_heldNow, 3, (some .int), [])
abbrev MX8_held : aw_M := (yX8_held, cX8_held, 3, (some .int), [])
abbrev MX8_tight : aw_M := (yX8_tight, cX8_tight, 5, (some .int), [])
abbrev MX8_walks : aw_M := (yX8_walks, cX8_walks, 3, (some .boolean), [])
abbrev MX8_steps : aw_M := (yX8_steps, cX8_steps, 1, (some .int), [])
abbrev MX8_walk : aw_M := (yX8_walk, cX8_walk, 2, (some .int), [])
abbrev MX8_pieces : aw_M := (yX8_pieces, cX8_pieces, 7, (some .int), [])
abbrev MX8_bounds : aw_M := (yX8_bounds, cX8_bounds, 5, none, [])
abbrev MX8_reach : aw_M := (yX8_reach, cX8_reach, 7, (some .long), [])
abbrev MX8_isNear : aw_M := (yX8_isNear, cX8_isNear, 4, (some .boolean), [])
abbrev MX8_isPlace : aw_M := (yX8_isPlace, cX8_isPlace, 3, (some .boolean), [])
abbrev MX8_nearest : aw_M := (yX8_nearest, cX8_nearest, 7, (some .long), [])
abbrev MX8_distance : aw_M := (yX8_distance, cX8_distance, 9, (some .long), [])
abbrev MX8_certify : aw_M := (yX8_certify, cX8_certify, 6, (some .int), [])
abbrev MX8_isStill : aw_M := (yX8_isStill, cX8_isStill, 6, (some .boolean), [])
abbrev MX8_check : aw_M := (yX8_check, cX8_check, 6, (some .int), [])
abbrev MX8_solve : aw_M := (yX8_solve, cX8_solve, 4, (some .int), [])
abbrev MX8_notes : aw_M := (yX8_notes, cX8_notes, 1, (some .int), [])
abbrev MX8_mark : aw_M := (yX8_mark, cX8_mark, 1, (some .long), [])
abbrev MX8_trail : aw_M := (yX8_trail, cX8_trail, 2, (some .int), [])
abbrev MX8_least : aw_M := (yX8_least, cX8_least, 2, (some .long), [])
abbrev MX8_isSheet : aw_M := (yX8_isSheet, cX8_isSheet, 1, (some .boolean), [])
abbrev MX8_becomesRow : aw_M := (yX8_becomesRow, cX8_becomesRow, 5, none, [])
abbrev MX8_sheet : aw_M := (yX8_sheet, cX8_sheet, 4, (some .int), [])
abbrev MX8_wrong : aw_M := (yX8_wrong, cX8_wrong, 3, (some .int), [])
abbrev MX8_cell : aw_M := (yX8_cell, cX8_cell, 6, (some .int), [])
abbrev MX8_read : aw_M := (yX8_read, cX8_read, 4, (some .long), [])
abbrev MX8_copy : aw_M := (yX8_copy, cX8_copy, 8, (some .int), [])
abbrev MX8_image : aw_M := (yX8_image, cX8_image, 2, (some .int), [])
abbrev MX8_back : aw_M := (yX8_back, cX8_back, 2, (some .int), [])
abbrev MX8_count : aw_M := (yX8_count, cX8_count, 4, (some .int), [])
abbrev MJ6_bitCount_0f7a4 : aw_M := (yJ6_bitCount_0f7a4, cJ6_bitCount_0f7a4, 1, (some .int), [])
abbrev MJ9_floorDiv_f86c9 : aw_M := (yJ9_floorDiv_f86c9, cJ9_floorDiv_f86c9, 6, (some .long), [])
abbrev MJ9_abs_067f4 : aw_M := (yJ9_abs_067f4, cJ9_abs_067f4, 2, (some .long), [])
abbrev MJ7_fill_d0a16 : aw_M := (yJ7_fill_d0a16, cJ7_fill_d0a16, 5, none, [])
abbrev MJ7_fill_53178 : aw_M := (yJ7_fill_53178, cJ7_fill_53178, 4, none, [])
theorem okX7_size : aw_ok MX7_size 1 := ⟨aw_pl 313 (by decide +kernel) rfl, aw_pl 54 (by decide +kernel) rfl, ⟨by decide +kernel, by decide +kernel⟩, by decide +kernel, by decide⟩
theorem viX7_size : Cond.instanceMethod (aw_y MX7_size) ∈ aw_tbl ∧ Cond.selects (aw_y MX7_size).cls (aw_y MX7_size) (aw_y MX7_size) ∈ aw_tbl := ⟨aw_pl 311 (by decide +kernel) rfl, aw_pl 312 (by decide +kernel) rfl⟩
theorem lkL_13 : aw_LV RL 13 6 1 MX7_size := ⟨⟨aw_pl 310 (by decide +kernel) rfl, viX7_size⟩, okX7_size, by decide +kernel⟩
theorem okX8_size : aw_ok MX8_size 1 := ⟨aw_pl 888 (by decide +kernel) rfl, aw_pl 62 (by decide +kernel) rfl, ⟨by decide +kernel, by decide +kernel⟩, by decide +kernel, by decide⟩
theorem viX8_size : Cond.instanceMethod (aw_y MX8_size) ∈ aw_tbl ∧ Cond.selects (aw_y MX8_size).cls (aw_y MX8_size) (aw_y MX8_size) ∈ aw_tbl := ⟨aw_pl 886 (by decide +kernel) rfl, aw_pl 887 (by decide +kernel) rfl⟩
theorem lkL_17 : aw_LV RL 17 7 1 MX8_size := ⟨⟨aw_pl 885 (by decide +kernel) rfl, viX8_size⟩, okX8_size, by decide +kernel⟩
theorem okX7_bend : aw_ok MX7_bend 3 := ⟨aw_pl 317 (by decide +kernel) rfl, aw_pl 54 (by decide +kernel) rfl, ⟨by decide +kernel, by decide +kernel⟩, by decide +kernel, by decide⟩
theorem viX7_bend : Cond.instanceMethod (aw_y MX7_bend) ∈ aw_tbl ∧ Cond.selects (aw_y MX7_bend).cls (aw_y MX7_bend) (aw_y MX7_bend) ∈ aw_tbl := ⟨aw_pl 315 (by decide +kernel) rfl, aw_pl 316 (by decide +kernel) rfl⟩
theorem lkL_18 : aw_LV RL 18 6 3 MX7_bend := ⟨⟨aw_pl 314 (by decide +kernel) rfl, viX7_bend⟩, okX7_bend, by decide +kernel⟩
theorem okX8_bend : aw_ok MX8_bend 3 := ⟨aw_pl 896 (by decide +kernel) rfl, aw_pl 62 (by decide +kernel) rfl, ⟨by decide +kernel, by decide +kernel⟩, by decide +kernel, by decide⟩
theorem viX8_bend : Cond.instanceMethod (aw_y MX8_bend) ∈ aw_tbl ∧ Cond.selects (aw_y MX8_bend).cls (aw_y MX8_bend) (aw_y MX8_bend) ∈ aw_tbl := ⟨aw_pl 894 (by decide +kernel) rfl, aw_pl 895 (by decide +kernel) rfl⟩
theorem lkL_22 : aw_LV RL 22 7 3 MX8_bend := ⟨⟨aw_pl 893 (by decide +kernel) rfl, viX8_bend⟩, okX8_bend, by decide +kernel⟩
theorem okX7_push : aw_ok MX7_push 2 := ⟨aw_pl 336 (by decide +kernel) rfl, aw_pl 54 (by decide +kernel) rfl, ⟨by decide +kernel, by decide +kernel⟩, by decide +kernel, by decide⟩
theorem viX7_push : Cond.instanceMethod (aw_y MX7_push) ∈ aw_tbl ∧ Cond.selects (aw_y MX7_push).cls (aw_y MX7_push) (aw_y MX7_push) ∈ aw_tbl := ⟨aw_pl 334 (by decide +kernel) rfl, aw_pl 335 (by decide +kernel) rfl⟩
theorem lkL_23 : aw_LV RL 23 6 2 MX7_push := ⟨⟨aw_pl 333 (by decide +kernel) rfl, viX7_push⟩, okX7_push, by decide +kernel⟩
theorem okX8_push : aw_ok MX8_push 2 := ⟨aw_pl 907 (by decide +kernel) rfl, aw_pl 62 (by decide +kernel) rfl, ⟨by decide +kernel, by decide +kernel⟩, by decide +kernel, by decide⟩
theorem viX8_push : Cond.instanceMethod (aw_y MX8_push) ∈ aw_tbl ∧ Cond.selects (aw_y MX8_push).cls (aw_y MX8_push) (aw_y MX8_push) ∈ aw_tbl := ⟨aw_pl 905 (by decide +kernel) rfl, aw_pl 906 (by decide +kernel) rfl⟩
theorem lkL_27 : aw_LV RL 27 7 2 MX8_push := ⟨⟨aw_pl 904 (by decide +kernel) rfl, viX8_push⟩, okX8_push, by decide +kernel⟩
theorem okX7_tide : aw_ok MX7_tide 1 := ⟨aw_pl 340 (by decide +kernel) rfl, aw_pl 54 (by decide +kernel) rfl, ⟨by decide +kernel, by decide +kernel⟩, by decide +kernel, by decide⟩
theorem viX7_tide : Cond.instanceMethod (aw_y MX7_tide) ∈ aw_tbl ∧ Cond.selects (aw_y MX7_tide).cls (aw_y MX7_tide) (aw_y MX7_tide) ∈ aw_tbl := ⟨aw_pl 338 (by decide +kernel) rfl, aw_pl 339 (by decide +kernel) rfl⟩
theorem lkL_28 : aw_LV RL 28 6 1 MX7_tide := ⟨⟨aw_pl 337 (by decide +kernel) rfl, viX7_tide⟩, okX7_tide, by decide +kernel⟩
theorem okX8_tide : aw_ok MX8_tide 1 := ⟨aw_pl 913 (by decide +kernel) rfl, aw_pl 62 (by decide +kernel) rfl, ⟨by decide +kernel, by decide +kernel⟩, by decide +kernel, by decide⟩
theorem viX8_tide : Cond.instanceMethod (aw_y MX8_tide) ∈ aw_tbl ∧ Cond.selects (aw_y MX8_tide).cls (aw_y MX8_tide) (aw_y MX8_tide) ∈ aw_tbl := ⟨aw_pl 911 (by decide +kernel) rfl, aw_pl 912 (by decide +kernel) rfl⟩
theorem lkL_31 : aw_LV RL 31 7 1 MX8_tide := ⟨⟨aw_pl 910 (by decide +kernel) rfl, viX8_tide⟩, okX8_tide, by decide +kernel⟩
theorem okX7_line : aw_ok MX7_line 3 := ⟨aw_pl 344 (by decide +kernel) rfl, aw_pl 54 (by decide +kernel) rfl, ⟨by decide +kernel, by decide +kernel⟩, by decide +kernel, by decide⟩
theorem viX7_line : Cond.instanceMethod (aw_y MX7_line) ∈ aw_tbl ∧ Cond.selects (aw_y MX7_line).cls (aw_y MX7_line) (aw_y MX7_line) ∈ aw_tbl := ⟨aw_pl 342 (by decide +kernel) rfl, aw_pl 343 (by decide +kernel) rfl⟩
theorem lkL_32 : aw_LV RL 32 6 3 MX7_line := ⟨⟨aw_pl 341 (by decide +kernel) rfl, viX7_line⟩, okX7_line, by decide +kernel⟩
theorem okX8_line : aw_ok MX8_line 3 := ⟨aw_pl 918 (by decide +kernel) rfl, aw_pl 62 (by decide +kernel) rfl, ⟨by decide +kernel, by decide +kernel⟩, by decide +kernel, by decide⟩
theorem viX8_line : Cond.instanceMethod (aw_y MX8_line) ∈ aw_tbl ∧ Cond.selects (aw_y MX8_line).cls (aw_y MX8_line) (aw_y MX8_line) ∈ aw_tbl := ⟨aw_pl 916 (by decide +kernel) rfl, aw_pl 917 (by decide +kernel) rfl⟩
theorem lkL_35 : aw_LV RL 35 7 3 MX8_line := ⟨⟨aw_pl 915 (by decide +kernel) rfl, viX8_line⟩, okX8_line, by decide +kernel⟩
theorem okX7_slope : aw_ok MX7_slope 3 := ⟨aw_pl 355 (by decide +kernel) rfl, aw_pl 54 (by decide +kernel) rfl, ⟨by decide +kernel, by decide +kernel⟩, by decide +kernel, by decide⟩
theorem viX7_slope : Cond.instanceMethod (aw_y MX7_slope) ∈ aw_tbl ∧ Cond.selects (aw_y MX7_slope).cls (aw_y MX7_slope) (aw_y MX7_slope) ∈ aw_tbl := ⟨aw_pl 353 (by decide +kernel) rfl, aw_pl 354 (by decide +kernel) rfl⟩
theorem lkL_36 : aw_LV RL 36 6 3 MX7_slope := ⟨⟨aw_pl 352 (by decide +kernel) rfl, viX7_slope⟩, okX7_slope, by decide +kernel⟩
theorem okX8_slope : aw_ok MX8_slope 3 := ⟨aw_pl 923 (by decide +kernel) rfl, aw_pl 62 (by decide +kernel) rfl, ⟨by decide +kernel, by decide +kernel⟩, by decide +kernel, by decide⟩
theorem viX8_slope : Cond.instanceMethod (aw_y MX8_slope) ∈ aw_tbl ∧ Cond.selects (aw_y MX8_slope).cls (aw_y MX8_slope) (aw_y MX8_slope) ∈ aw_tbl := ⟨aw_pl 921 (by decide +kernel) rfl, aw_pl 922 (by decide +kernel) rfl⟩
theorem lkL_39 : aw_LV RL 39 7 3 MX8_slope := ⟨⟨aw_pl 920 (by decide +kernel) rfl, viX8_slope⟩, okX8_slope, by decide +kernel⟩
theorem okX7_change : aw_ok MX7_change 3 := ⟨aw_pl 363 (by decide +kernel) rfl, aw_pl 54 (by decide +kernel) rfl, ⟨by decide +kernel, by decide +kernel⟩, by decide +kernel, by decide⟩
theorem viX7_change : Cond.instanceMethod (aw_y MX7_change) ∈ aw_tbl ∧ Cond.selects (aw_y MX7_change).cls (aw_y MX7_change) (aw_y MX7_change) ∈ aw_tbl := ⟨aw_pl 361 (by decide +kernel) rfl, aw_pl 362 (by decide +kernel) rfl⟩
theorem lkL_40 : aw_LV RL 40 6 3 MX7_change := ⟨⟨aw_pl 360 (by decide +kernel) rfl, viX7_change⟩, okX7_change, by decide +kernel⟩
theorem okX8_change : aw_ok MX8_change 3 := ⟨aw_pl 936 (by decide +kernel) rfl, aw_pl 62 (by decide +kernel) rfl, ⟨by decide +kernel, by decide +kernel⟩, by decide +kernel, by decide⟩
theorem viX8_change : Cond.instanceMethod (aw_y MX8_change) ∈ aw_tbl ∧ Cond.selects (aw_y MX8_change).cls (aw_y MX8_change) (aw_y MX8_change) ∈ aw_tbl := ⟨aw_pl 934 (by decide +kernel) rfl, aw_pl 935 (by decide +kernel) rfl⟩
theorem lkL_43 : aw_LV RL 43 7 3 MX8_change := ⟨⟨aw_pl 933 (by decide +kernel) rfl, viX8_change⟩, okX8_change, by decide +kernel⟩
theorem okX7_drop : aw_ok MX7_drop 1 := ⟨aw_pl 370 (by decide +kernel) rfl, aw_pl 54 (by decide +kernel) rfl, ⟨by decide +kernel, by decide +kernel⟩, by decide +kernel, by decide⟩
theorem viX7_drop : Cond.instanceMethod (aw_y MX7_drop) ∈ aw_tbl ∧ Cond.selects (aw_y MX7_drop).cls (aw_y MX7_drop) (aw_y MX7_drop) ∈ aw_tbl := ⟨aw_pl 368 (by decide +kernel) rfl, aw_pl 369 (by decide +kernel) rfl⟩
theorem lkL_44 : aw_LV RL 44 6 1 MX7_drop := ⟨⟨aw_pl 367 (by decide +kernel) rfl, viX7_drop⟩, okX7_drop, by decide +kernel⟩
theorem okX8_drop : aw_ok MX8_drop 1 := ⟨aw_pl 940 (by decide +kernel) rfl, aw_pl 62 (by decide +kernel) rfl, ⟨by decide +kernel, by decide +kernel⟩, by decide +kernel, by decide⟩
theorem viX8_drop : Cond.instanceMethod (aw_y MX8_drop) ∈ aw_tbl ∧ Cond.selects (aw_y MX8_drop).cls (aw_y MX8_drop) (aw_y MX8_drop) ∈ aw_tbl := ⟨aw_pl 938 (by decide +kernel) rfl, aw_pl 939 (by decide +kernel) rfl⟩
theorem lkL_47 : aw_LV RL 47 7 1 MX8_drop := ⟨⟨aw_pl 937 (by decide +kernel) rfl, viX8_drop⟩, okX8_drop, by decide +kernel⟩
theorem okX7_lineOf : aw_ok MX7_lineOf 2 := ⟨aw_pl 381 (by decide +kernel) rfl, aw_pl 54 (by decide +kernel) rfl, ⟨by decide +kernel, by decide +kernel⟩, by decide +kernel, by decide⟩
theorem viX7_lineOf : Cond.instanceMethod (aw_y MX7_lineOf) ∈ aw_tbl ∧ Cond.selects (aw_y MX7_lineOf).cls (aw_y MX7_lineOf) (aw_y MX7_lineOf) ∈ aw_tbl := ⟨aw_pl 379 (by decide +kernel) rfl, aw_pl 380 (by decide +kernel) rfl⟩
theorem lkL_48 : aw_LV RL 48 6 2 MX7_lineOf := ⟨⟨aw_pl 378 (by decide +kernel) rfl, viX7_lineOf⟩, okX7_lineOf, by decide +kernel⟩
theorem okX8_lineOf : aw_ok MX8_lineOf 2 := ⟨aw_pl 944 (by decide +kernel) rfl, aw_pl 62 (by decide +kernel) rfl, ⟨by decide +kernel, by decide +kernel⟩, by decide +kernel, by decide⟩
theorem viX8_lineOf : Cond.instanceMethod (aw_y MX8_lineOf) ∈ aw_tbl ∧ Cond.selects (aw_y MX8_lineOf).cls (aw_y MX8_lineOf) (aw_y MX8_lineOf) ∈ aw_tbl := ⟨aw_pl 942 (by decide +kernel) rfl, aw_pl 943 (by decide +kernel) rfl⟩
theorem lkL_51 : aw_LV RL 51 7 2 MX8_lineOf := ⟨⟨aw_pl 941 (by decide +kernel) rfl, viX8_lineOf⟩, okX8_lineOf, by decide +kernel⟩
theorem okX7_minor : aw_ok MX7_minor 1 := ⟨aw_pl 393 (by decide +kernel) rfl, aw_pl 54 (by decide +kernel) rfl, ⟨by decide +kernel, by decide +kernel⟩, by decide +kernel, by decide⟩
theorem viX7_minor : Cond.instanceMethod (aw_y MX7_minor) ∈ aw_tbl ∧ Cond.selects (aw_y MX7_minor).cls (aw_y MX7_minor) (aw_y MX7_minor) ∈ aw_tbl := ⟨aw_pl 391 (by decide +kernel) rfl, aw_pl 392 (by decide +kernel) rfl⟩
theorem lkL_52 : aw_LV RL 52 6 1 MX7_minor := ⟨⟨aw_pl 390 (by decide +kernel) rfl, viX7_minor⟩, okX7_minor, by decide +kernel⟩
theorem okX8_minor : aw_ok MX8_minor 1 := ⟨aw_pl 957 (by decide +kernel) rfl, aw_pl 62 (by decide +kernel) rfl, ⟨by decide +kernel, by decide +kernel⟩, by decide +kernel, by decide⟩
theorem viX8_minor : Cond.instanceMethod (aw_y MX8_minor) ∈ aw_tbl ∧ Cond.selects (aw_y MX8_minor).cls (aw_y MX8_minor) (aw_y MX8_minor) ∈ aw_tbl := ⟨aw_pl 955 (by decide +kernel) rfl, aw_pl 956 (by decide +kernel) rfl⟩
theorem lkL_55 : aw_LV RL 55 7 1 MX8_minor := ⟨⟨aw_pl 954 (by decide +kernel) rfl, viX8_minor⟩, okX8_minor, by decide +kernel⟩
theorem okX7_isProper : aw_ok MX7_isProper 0 := ⟨aw_pl 402 (by decide +kernel) rfl, aw_pl 54 (by decide +kernel) rfl, ⟨by decide +kernel, by decide +kernel⟩, by decide +kernel, by decide⟩
theorem viX7_isProper : Cond.instanceMethod (aw_y MX7_isProper) ∈ aw_tbl ∧ Cond.selects (aw_y MX7_isProper).cls (aw_y MX7_isProper) (aw_y MX7_isProper) ∈ aw_tbl := ⟨aw_pl 400 (by decide +kernel) rfl, aw_pl 401 (by decide +kernel) rfl⟩
theorem lkL_56 : aw_LV RL 56 6 0 MX7_isProper := ⟨⟨aw_pl 399 (by decide +kernel) rfl, viX7_isProper⟩, okX7_isProper, by decide +kernel⟩
theorem okX8_isProper : aw_ok MX8_isProper 0 := ⟨aw_pl 972 (by decide +kernel) rfl, aw_pl 62 (by decide +kernel) rfl, ⟨by decide +kernel, by decide +kernel⟩, by decide +kernel, by decide⟩
theorem viX8_isProper : Cond.instanceMethod (aw_y MX8_isProper) ∈ aw_tbl ∧ Cond.selects (aw_y MX8_isProper).cls (aw_y MX8_isProper) (aw_y MX8_isProper) ∈ aw_tbl := ⟨aw_pl 970 (by decide +kernel) rfl, aw_pl 971 (by decide +kernel) rfl⟩
theorem lkL_60 : aw_LV RL 60 7 0 MX8_isProper := ⟨⟨aw_pl 969 (by decide +kernel) rfl, viX8_isProper⟩, okX8_isProper, by decide +kernel⟩
theorem okX7_working : aw_ok MX7_working 1 := ⟨aw_pl 411 (by decide +kernel) rfl, aw_pl 54 (by decide +kernel) rfl, ⟨by decide +kernel, by decide +kernel⟩, by decide +kernel, by decide⟩
theorem viX7_working : Cond.instanceMethod (aw_y MX7_working) ∈ aw_tbl ∧ Cond.selects (aw_y MX7_working).cls (aw_y MX7_working) (aw_y MX7_working) ∈ aw_tbl := ⟨aw_pl 409 (by decide +kernel) rfl, aw_pl 410 (by decide +kernel) rfl⟩
theorem lkL_61 : aw_LV RL 61 6 1 MX7_working := ⟨⟨aw_pl 408 (by decide +kernel) rfl, viX7_working⟩, okX7_working, by decide +kernel⟩
theorem okX8_working : aw_ok MX8_working 1 := ⟨aw_pl 980 (by decide +kernel) rfl, aw_pl 62 (by decide +kernel) rfl, ⟨by decide +kernel, by decide +kernel⟩, by decide +kernel, by decide⟩
theorem viX8_working : Cond.instanceMethod (aw_y MX8_working) ∈ aw_tbl ∧ Cond.selects (aw_y MX8_working).cls (aw_y MX8_working) (aw_y MX8_working) ∈ aw_tbl := ⟨aw_pl 978 (by decide +kernel) rfl, aw_pl 979 (by decide +kernel) rfl⟩
theorem lkL_64 : aw_LV RL 64 7 1 MX8_working := ⟨⟨aw_pl 977 (by decide +kernel) rfl, viX8_working⟩, okX8_working, by decide +kernel⟩
theorem okX7_answer : aw_ok MX7_answer 3 := ⟨aw_pl 498 (by decide +kernel) rfl, aw_pl 54 (by decide +kernel) rfl, ⟨by decide +kernel, by decide +kernel⟩, by decide +kernel, by decide⟩
theorem viX7_answer : Cond.instanceMethod (aw_y MX7_answer) ∈ aw_tbl ∧ Cond.selects (aw_y MX7_answer).cls (aw_y MX7_answer) (aw_y MX7_answer) ∈ aw_tbl := ⟨aw_pl 496 (by decide +kernel) rfl, aw_pl 497 (by decide +kernel) rfl⟩
theorem lkL_65 : aw_LV RL 65 6 3 MX7_answer := ⟨⟨aw_pl 495 (by decide +kernel) rfl, viX7_answer⟩, okX7_answer, by decide +kernel⟩
theorem okX8_answer : aw_ok MX8_answer 3 := ⟨aw_pl 1028 (by decide +kernel) rfl, aw_pl 62 (by decide +kernel) rfl, ⟨by decide +kernel, by decide +kernel⟩, by decide +kernel, by decide⟩
theorem viX8_answer : Cond.instanceMethod (aw_y MX8_answer) ∈ aw_tbl ∧ Cond.selects (aw_y MX8_answer).cls (aw_y MX8_answer) (aw_y MX8_answer) ∈ aw_tbl := ⟨aw_pl 1026 (by decide +kernel) rfl, aw_pl 1027 (by decide +kernel) rfl⟩
theorem lkL_69 : aw_LV RL 69 7 3 MX8_answer := ⟨⟨aw_pl 1025 (by decide +kernel) rfl, viX8_answer⟩, okX8_answer, by decide +kernel⟩
theorem okX7_worth : aw_ok MX7_worth 2 := ⟨aw_pl 515 (by decide +kernel) rfl, aw_pl 54 (by decide +kernel) rfl, ⟨by decide +kernel, by decide +kernel⟩, by decide +kernel, by decide⟩
theorem viX7_worth : Cond.instanceMethod (aw_y MX7_worth) ∈ aw_tbl ∧ Cond.selects (aw_y MX7_worth).cls (aw_y MX7_worth) (aw_y MX7_worth) ∈ aw_tbl := ⟨aw_pl 513 (by decide +kernel) rfl, aw_pl 514 (by decide +kernel) rfl⟩
theorem lkL_70 : aw_LV RL 70 6 2 MX7_worth := ⟨⟨aw_pl 512 (by decide +kernel) rfl, viX7_worth⟩, okX7_worth, by decide +kernel⟩
theorem okX8_worth : aw_ok MX8_worth 2 := ⟨aw_pl 1049 (by decide +kernel) rfl, aw_pl 62 (by decide +kernel) rfl, ⟨by decide +kernel, by decide +kernel⟩, by decide +kernel, by decide⟩
theorem viX8_worth : Cond.instanceMethod (aw_y MX8_worth) ∈ aw_tbl ∧ Cond.selects (aw_y MX8_worth).cls (aw_y MX8_worth) (aw_y MX8_worth) ∈ aw_tbl := ⟨aw_pl 1047 (by decide +kernel) rfl, aw_pl 1048 (by decide +kernel) rfl⟩
theorem lkL_74 : aw_LV RL 74 7 2 MX8_worth := ⟨⟨aw_pl 1046 (by decide +kernel) rfl, viX8_worth⟩, okX8_worth, by decide +kernel⟩
theorem okX7_weight : aw_ok MX7_weight 3 := ⟨aw_pl 524 (by decide +kernel) rfl, aw_pl 54 (by decide +kernel) rfl, ⟨by decide +kernel, by decide +kernel⟩, by decide +kernel, by decide⟩
theorem viX7_weight : Cond.instanceMethod (aw_y MX7_weight) ∈ aw_tbl ∧ Cond.selects (aw_y MX7_weight).cls (aw_y MX7_weight) (aw_y MX7_weight) ∈ aw_tbl := ⟨aw_pl 522 (by decide +kernel) rfl, aw_pl 523 (by decide +kernel) rfl⟩
theorem lkL_75 : aw_LV RL 75 6 3 MX7_weight := ⟨⟨aw_pl 521 (by decide +kernel) rfl, viX7_weight⟩, okX7_weight, by decide +kernel⟩
theorem okX8_weight : aw_ok MX8_weight 3 := ⟨aw_pl 1057 (by decide +kernel) rfl, aw_pl 62 (by decide +kernel) rfl, ⟨by decide +kernel, by decide +kernel⟩, by decide +kernel, by decide⟩
theorem viX8_weight : Cond.instanceMethod (aw_y MX8_weight) ∈ aw_tbl ∧ Cond.selects (aw_y MX8_weight).cls (aw_y MX8_weight) (aw_y MX8_weight) ∈ aw_tbl := ⟨aw_pl 1055 (by decide +kernel) rfl, aw_pl 1056 (by decide +kernel) rfl⟩
theorem lkL_78 : aw_LV RL 78 7 3 MX8_weight := ⟨⟨aw_pl 1054 (by decide +kernel) rfl, viX8_weight⟩, okX8_weight, by decide +kernel⟩
theorem okX7_slack : aw_ok MX7_slack 3 := ⟨aw_pl 531 (by decide +kernel) rfl, aw_pl 54 (by decide +kernel) rfl, ⟨by decide +kernel, by decide +kernel⟩, by decide +kernel, by decide⟩
theorem viX7_slack : Cond.instanceMethod (aw_y MX7_slack) ∈ aw_tbl ∧ Cond.selects (aw_y MX7_slack).cls (aw_y MX7_slack) (aw_y MX7_slack) ∈ aw_tbl := ⟨aw_pl 529 (by decide +kernel) rfl, aw_pl 530 (by decide +kernel) rfl⟩
theorem lkL_79 : aw_LV RL 79 6 3 MX7_slack := ⟨⟨aw_pl 528 (by decide +kernel) rfl, viX7_slack⟩, okX7_slack, by decide +kernel⟩
theorem okX8_slack : aw_ok MX8_slack 3 := ⟨aw_pl 1061 (by decide +kernel) rfl, aw_pl 62 (by decide +kernel) rfl, ⟨by decide +kernel, by decide +kernel⟩, by decide +kernel, by decide⟩
theorem viX8_slack : Cond.instanceMethod (aw_y MX8_slack) ∈ aw_tbl ∧ Cond.selects (aw_y MX8_slack).cls (aw_y MX8_slack) (aw_y MX8_slack) ∈ aw_tbl := ⟨aw_pl 1059 (by decide +kernel) rfl, aw_pl 1060 (by decide +kernel) rfl⟩
theorem lkL_82 : aw_LV RL 82 7 3 MX8_slack := ⟨⟨aw_pl 1058 (by decide +kernel) rfl, viX8_slack⟩, okX8_slack, by decide +kernel⟩
theorem okX7_held : aw_ok MX7_held 1 := ⟨aw_pl 536 (by decide +kernel) rfl, aw_pl 54 (by decide +kernel) rfl, ⟨by decide +kernel, by decide +kernel⟩, by decide +kernel, by decide⟩
theorem viX7_held : Cond.instanceMethod (aw_y MX7_held) ∈ aw_tbl ∧ Cond.selects (aw_y MX7_held).cls (aw_y MX7_held) (aw_y MX7_held) ∈ aw_tbl := ⟨aw_pl 534 (by decide +kernel) rfl, aw_pl 535 (by decide +kernel) rfl⟩
theorem lkL_83 : aw_LV RL 83 6 1 MX7_held := ⟨⟨aw_pl 533 (by decide +kernel) rfl, viX7_held⟩, okX7_held, by decide +kernel⟩
theorem okX8_held : aw_ok MX8_held 1 := ⟨aw_pl 1065 (by decide +kernel) rfl, aw_pl 62 (by decide +kernel) rfl, ⟨by decide +kernel, by decide +kernel⟩, by decide +kernel, by decide⟩
theorem viX8_held : Cond.instanceMethod (aw_y MX8_held) ∈ aw_tbl ∧ Cond.selects (aw_y MX8_held).cls (aw_y MX8_held) (aw_y MX8_held) ∈ aw_tbl := ⟨aw_pl 1063 (by decide +kernel) rfl, aw_pl 1064 (by decide +kernel) rfl⟩
theorem lkL_86 : aw_LV RL 86 7 1 MX8_held := ⟨⟨aw_pl 1062 (by decide +kernel) rfl, viX8_held⟩, okX8_held, by decide +kernel⟩
theorem okX7_tight : aw_ok MX7_tight 1 := ⟨aw_pl 544 (by decide +kernel) rfl, aw_pl 54 (by decide +kernel) rfl, ⟨by decide +kernel, by decide +kernel⟩, by decide +kernel, by decide⟩
theorem viX7_tight : Cond.instanceMethod (aw_y MX7_tight) ∈ aw_tbl ∧ Cond.selects (aw_y MX7_tight).cls (aw_y MX7_tight) (aw_y MX7_tight) ∈ aw_tbl := ⟨aw_pl 542 (by decide +kernel) rfl, aw_pl 543 (by decide +kernel) rfl⟩
theorem lkL_87 : aw_LV RL 87 6 1 MX7_tight := ⟨⟨aw_pl 541 (by decide +kernel) rfl, viX7_tight⟩, okX7_tight, by decide +kernel⟩
theorem okX8_tight : aw_ok MX8_tight 1 := ⟨aw_pl 1073 (by decide +kernel) rfl, aw_pl 62 (by decide +kernel) rfl, ⟨by decide +kernel, by decide +kernel⟩, by decide +kernel, by decide⟩
theorem viX8_tight : Cond.instanceMethod (aw_y MX8_tight) ∈ aw_tbl ∧ Cond.selects (aw_y MX8_tight).cls (aw_y MX8_tight) (aw_y MX8_tight) ∈ aw_tbl := ⟨aw_pl 1071 (by decide +kernel) rfl, aw_pl 1072 (by decide +kernel) rfl⟩
theorem lkL_90 : aw_LV RL 90 7 1 MX8_tight := ⟨⟨aw_pl 1070 (by decide +kernel) rfl, viX8_tight⟩, okX8_tight, by decide +kernel⟩
theorem okX7_steps : aw_ok MX7_steps 0 := ⟨aw_pl 552 (by decide +kernel) rfl, aw_pl 54 (by decide +kernel) rfl, ⟨by decide +kernel, by decide +kernel⟩, by decide +kernel, by decide⟩
theorem viX7_steps : Cond.instanceMethod (aw_y MX7_steps) ∈ aw_tbl ∧ Cond.selects (aw_y MX7_steps).cls (aw_y MX7_steps) (aw_y MX7_steps) ∈ aw_tbl := ⟨aw_pl 550 (by decide +kernel) rfl, aw_pl 551 (by decide +kernel) rfl⟩
theorem lkL_91 : aw_LV RL 91 6 0 MX7_steps := ⟨⟨aw_pl 549 (by decide +kernel) rfl, viX7_steps⟩, okX7_steps, by decide +kernel⟩
theorem okX8_steps : aw_ok MX8_steps 0 := ⟨aw_pl 1077 (by decide +kernel) rfl, aw_pl 62 (by decide +kernel) rfl, ⟨by decide +kernel, by decide +kernel⟩, by decide +kernel, by decide⟩
theorem viX8_steps : Cond.instanceMethod (aw_y MX8_steps) ∈ aw_tbl ∧ Cond.selects (aw_y MX8_steps).cls (aw_y MX8_steps) (aw_y MX8_steps) ∈ aw_tbl := ⟨aw_pl 1075 (by decide +kernel) rfl, aw_pl 1076 (by decide +kernel) rfl⟩
theorem lkL_94 : aw_LV RL 94 7 0 MX8_steps := ⟨⟨aw_pl 1074 (by decide +kernel) rfl, viX8_steps⟩, okX8_steps, by decide +kernel⟩
theorem okX7_walk : aw_ok MX7_walk 1 := ⟨aw_pl 563 (by decide +kernel) rfl, aw_pl 54 (by decide +kernel) rfl, ⟨by decide +kernel, by decide +kernel⟩, by decide +kernel, by decide⟩
theorem viX7_walk : Cond.instanceMethod (aw_y MX7_walk) ∈ aw_tbl ∧ Cond.selects (aw_y MX7_walk).cls (aw_y MX7_walk) (aw_y MX7_walk) ∈ aw_tbl := ⟨aw_pl 561 (by decide +kernel) rfl, aw_pl 562 (by decide +kernel) rfl⟩
theorem lkL_95 : aw_LV RL 95 6 1 MX7_walk := ⟨⟨aw_pl 560 (by decide +kernel) rfl, viX7_walk⟩, okX7_walk, by decide +kernel⟩
theorem okX8_walk : aw_ok MX8_walk 1 := ⟨aw_pl 1085 (by decide +kernel) rfl, aw_pl 62 (by decide +kernel) rfl, ⟨by decide +kernel, by decide +kernel⟩, by decide +kernel, by decide⟩
theorem viX8_walk : Cond.instanceMethod (aw_y MX8_walk) ∈ aw_tbl ∧ Cond.selects (aw_y MX8_walk).cls (aw_y MX8_walk) (aw_y MX8_walk) ∈ aw_tbl := ⟨aw_pl 1083 (by decide +kernel) rfl, aw_pl 1084 (by decide +kernel) rfl⟩
theorem lkL_98 : aw_LV RL 98 7 1 MX8_walk := ⟨⟨aw_pl 1082 (by decide +kernel) rfl, viX8_walk⟩, okX8_walk, by decide +kernel⟩
theorem okX7_pieces : aw_ok MX7_pieces 1 := ⟨aw_pl 567 (by decide +kernel) rfl, aw_pl 54 (by decide +kernel) rfl, ⟨by decide +kernel, by decide +kernel⟩, by decide +kernel, by decide⟩
theorem viX7_pieces : Cond.instanceMethod (aw_y MX7_pieces) ∈ aw_tbl ∧ Cond.selects (aw_y MX7_pieces).cls (aw_y MX7_pieces) (aw_y MX7_pieces) ∈ aw_tbl := ⟨aw_pl 565 (by decide +kernel) rfl, aw_pl 566 (by decide +kernel) rfl⟩
theorem lkL_99 : aw_LV RL 99 6 1 MX7_pieces := ⟨⟨aw_pl 564 (by decide +kernel) rfl, viX7_pieces⟩, okX7_pieces, by decide +kernel⟩
theorem okX8_pieces : aw_ok MX8_pieces 1 := ⟨aw_pl 1089 (by decide +kernel) rfl, aw_pl 62 (by decide +kernel) rfl, ⟨by decide +kernel, by decide +kernel⟩, by decide +kernel, by decide⟩
theorem viX8_pieces : Cond.instanceMethod (aw_y MX8_pieces) ∈ aw_tbl ∧ Cond.selects (aw_y MX8_pieces).cls (aw_y MX8_pieces) (aw_y MX8_pieces) ∈ aw_tbl := ⟨aw_pl 1087 (by decide +kernel) rfl, aw_pl 1088 (by decide +kernel) rfl⟩
theorem lkL_102 : aw_LV RL 102 7 1 MX8_pieces := ⟨⟨aw_pl 1086 (by decide +kernel) rfl, viX8_pieces⟩, okX8_pieces, by decide +kernel⟩
theorem okX7_reach : aw_ok MX7_reach 1 := ⟨aw_pl 580 (by decide +kernel) rfl, aw_pl 54 (by decide +kernel) rfl, ⟨by decide +kernel, by decide +kernel⟩, by decide +kernel, by decide⟩
theorem viX7_reach : Cond.instanceMethod (aw_y MX7_reach) ∈ aw_tbl ∧ Cond.selects (aw_y MX7_reach).cls (aw_y MX7_reach) (aw_y MX7_reach) ∈ aw_tbl := ⟨aw_pl 578 (by decide +kernel) rfl, aw_pl 579 (by decide +kernel) rfl⟩
theorem lkL_103 : aw_LV RL 103 6 1 MX7_reach := ⟨⟨aw_pl 577 (by decide +kernel) rfl, viX7_reach⟩, okX7_reach, by decide +kernel⟩
theorem okX8_reach : aw_ok MX8_reach 1 := ⟨aw_pl 1097 (by decide +kernel) rfl, aw_pl 62 (by decide +kernel) rfl, ⟨by decide +kernel, by decide +kernel⟩, by decide +kernel, by decide⟩
theorem viX8_reach : Cond.instanceMethod (aw_y MX8_reach) ∈ aw_tbl ∧ Cond.selects (aw_y MX8_reach).cls (aw_y MX8_reach) (aw_y MX8_reach) ∈ aw_tbl := ⟨aw_pl 1095 (by decide +kernel) rfl, aw_pl 1096 (by decide +kernel) rfl⟩
theorem lkL_107 : aw_LV RL 107 7 1 MX8_reach := ⟨⟨aw_pl 1094 (by decide +kernel) rfl, viX8_reach⟩, okX8_reach, by decide +kernel⟩
theorem okX7_nearest : aw_ok MX7_nearest 5 := ⟨aw_pl 600 (by decide +kernel) rfl, aw_pl 54 (by decide +kernel) rfl, ⟨by decide +kernel, by decide +kernel⟩, by decide +kernel, by decide⟩
theorem viX7_nearest : Cond.instanceMethod (aw_y MX7_nearest) ∈ aw_tbl ∧ Cond.selects (aw_y MX7_nearest).cls (aw_y MX7_nearest) (aw_y MX7_nearest) ∈ aw_tbl := ⟨aw_pl 598 (by decide +kernel) rfl, aw_pl 599 (by decide +kernel) rfl⟩
theorem lkL_108 : aw_LV RL 108 6 5 MX7_nearest := ⟨⟨aw_pl 597 (by decide +kernel) rfl, viX7_nearest⟩, okX7_nearest, by decide +kernel⟩
theorem okX8_nearest : aw_ok MX8_nearest 5 := ⟨aw_pl 1117 (by decide +kernel) rfl, aw_pl 62 (by decide +kernel) rfl, ⟨by decide +kernel, by decide +kernel⟩, by decide +kernel, by decide⟩
theorem viX8_nearest : Cond.instanceMethod (aw_y MX8_nearest) ∈ aw_tbl ∧ Cond.selects (aw_y MX8_nearest).cls (aw_y MX8_nearest) (aw_y MX8_nearest) ∈ aw_tbl := ⟨aw_pl 1115 (by decide +kernel) rfl, aw_pl 1116 (by decide +kernel) rfl⟩
theorem lkL_112 : aw_LV RL 112 7 5 MX8_nearest := ⟨⟨aw_pl 1114 (by decide +kernel) rfl, viX8_nearest⟩, okX8_nearest, by decide +kernel⟩
theorem okX7_distance : aw_ok MX7_distance 4 := ⟨aw_pl 613 (by decide +kernel) rfl, aw_pl 54 (by decide +kernel) rfl, ⟨by decide +kernel, by decide +kernel⟩, by decide +kernel, by decide⟩
theorem viX7_distance : Cond.instanceMethod (aw_y MX7_distance) ∈ aw_tbl ∧ Cond.selects (aw_y MX7_distance).cls (aw_y MX7_distance) (aw_y MX7_distance) ∈ aw_tbl := ⟨aw_pl 611 (by decide +kernel) rfl, aw_pl 612 (by decide +kernel) rfl⟩
theorem lkL_113 : aw_LV RL 113 6 4 MX7_distance := ⟨⟨aw_pl 610 (by decide +kernel) rfl, viX7_distance⟩, okX7_distance, by decide +kernel⟩
theorem okX8_distance : aw_ok MX8_distance 4 := ⟨aw_pl 1128 (by decide +kernel) rfl, aw_pl 62 (by decide +kernel) rfl, ⟨by decide +kernel, by decide +kernel⟩, by decide +kernel, by decide⟩
theorem viX8_distance : Cond.instanceMethod (aw_y MX8_distance) ∈ aw_tbl ∧ Cond.selects (aw_y MX8_distance).cls (aw_y MX8_distance) (aw_y MX8_distance) ∈ aw_tbl := ⟨aw_pl 1126 (by decide +kernel) rfl, aw_pl 1127 (by decide +kernel) rfl⟩
theorem lkL_117 : aw_LV RL 117 7 4 MX8_distance := ⟨⟨aw_pl 1125 (by decide +kernel) rfl, viX8_distance⟩, okX8_distance, by decide +kernel⟩
theorem okX7_certify : aw_ok MX7_certify 1 := ⟨aw_pl 621 (by decide +kernel) rfl, aw_pl 54 (by decide +kernel) rfl, ⟨by decide +kernel, by decide +kernel⟩, by decide +kernel, by decide⟩
theorem viX7_certify : Cond.instanceMethod (aw_y MX7_certify) ∈ aw_tbl ∧ Cond.selects (aw_y MX7_certify).cls (aw_y MX7_certify) (aw_y MX7_certify) ∈ aw_tbl := ⟨aw_pl 619 (by decide +kernel) rfl, aw_pl 620 (by decide +kernel) rfl⟩
theorem lkL_118 : aw_LV RL 118 6 1 MX7_certify := ⟨⟨aw_pl 618 (by decide +kernel) rfl, viX7_certify⟩, okX7_certify, by decide +kernel⟩
theorem okX8_certify : aw_ok MX8_certify 1 := ⟨aw_pl 1132 (by decide +kernel) rfl, aw_pl 62 (by decide +kernel) rfl, ⟨by decide +kernel, by decide +kernel⟩, by decide +kernel, by decide⟩
theorem viX8_certify : Cond.instanceMethod (aw_y MX8_certify) ∈ aw_tbl ∧ Cond.selects (aw_y MX8_certify).cls (aw_y MX8_certify) (aw_y MX8_certify) ∈ aw_tbl := ⟨aw_pl 1130 (by decide +kernel) rfl, aw_pl 1131 (by decide +kernel) rfl⟩
theorem lkL_121 : aw_LV RL 121 7 1 MX8_certify := ⟨⟨aw_pl 1129 (by decide +kernel) rfl, viX8_certify⟩, okX8_certify, by decide +kernel⟩
theorem okX7_check : aw_ok MX7_check 1 := ⟨aw_pl 651 (by decide +kernel) rfl, aw_pl 54 (by decide +kernel) rfl, ⟨by decide +kernel, by decide +kernel⟩, by decide +kernel, by decide⟩
theorem viX7_check : Cond.instanceMethod (aw_y MX7_check) ∈ aw_tbl ∧ Cond.selects (aw_y MX7_check).cls (aw_y MX7_check) (aw_y MX7_check) ∈ aw_tbl := ⟨aw_pl 649 (by decide +kernel) rfl, aw_pl 650 (by decide +kernel) rfl⟩
theorem lkL_122 : aw_LV RL 122 6 1 MX7_check := ⟨⟨aw_pl 648 (by decide +kernel) rfl, viX7_check⟩, okX7_check, by decide +kernel⟩
theorem okX8_check : aw_ok MX8_check 1 := ⟨aw_pl 1143 (by decide +kernel) rfl, aw_pl 62 (by decide +kernel) rfl, ⟨by decide +kernel, by decide +kernel⟩, by decide +kernel, by decide⟩
theorem viX8_check : Cond.instanceMethod (aw_y MX8_check) ∈ aw_tbl ∧ Cond.selects (aw_y MX8_check).cls (aw_y MX8_check) (aw_y MX8_check) ∈ aw_tbl := ⟨aw_pl 1141 (by decide +kernel) rfl, aw_pl 1142 (by decide +kernel) rfl⟩
theorem lkL_125 : aw_LV RL 125 7 1 MX8_check := ⟨⟨aw_pl 1140 (by decide +kernel) rfl, viX8_check⟩, okX8_check, by decide +kernel⟩
theorem okX7_solve : aw_ok MX7_solve 0 := ⟨aw_pl 699 (by decide +kernel) rfl, aw_pl 54 (by decide +kernel) rfl, ⟨by decide +kernel, by decide +kernel⟩, by decide +kernel, by decide⟩
theorem viX7_solve : Cond.instanceMethod (aw_y MX7_solve) ∈ aw_tbl ∧ Cond.selects (aw_y MX7_solve).cls (aw_y MX7_solve) (aw_y MX7_solve) ∈ aw_tbl := ⟨aw_pl 697 (by decide +kernel) rfl, aw_pl 698 (by decide +kernel) rfl⟩
theorem lkL_126 : aw_LV RL 126 6 0 MX7_solve := ⟨⟨aw_pl 696 (by decide +kernel) rfl, viX7_solve⟩, okX7_solve, by decide +kernel⟩
theorem okX8_solve : aw_ok MX8_solve 0 := ⟨aw_pl 1153 (by decide +kernel) rfl, aw_pl 62 (by decide +kernel) rfl, ⟨by decide +kernel, by decide +kernel⟩, by decide +kernel, by decide⟩
theorem viX8_solve : Cond.instanceMethod (aw_y MX8_solve) ∈ aw_tbl ∧ Cond.selects (aw_y MX8_solve).cls (aw_y MX8_solve) (aw_y MX8_solve) ∈ aw_tbl := ⟨aw_pl 1151 (by decide +kernel) rfl, aw_pl 1152 (by decide +kernel) rfl⟩
theorem lkL_129 : aw_LV RL 129 7 0 MX8_solve := ⟨⟨aw_pl 1150 (by decide +kernel) rfl, viX8_solve⟩, okX8_solve, by decide +kernel⟩
theorem okX7_notes : aw_ok MX7_notes 0 := ⟨aw_pl 713 (by decide +kernel) rfl, aw_pl 54 (by decide +kernel) rfl, ⟨by decide +kernel, by decide +kernel⟩, by decide +kernel, by decide⟩
theorem viX7_notes : Cond.instanceMethod (aw_y MX7_notes) ∈ aw_tbl ∧ Cond.selects (aw_y MX7_notes).cls (aw_y MX7_notes) (aw_y MX7_notes) ∈ aw_tbl := ⟨aw_pl 711 (by decide +kernel) rfl, aw_pl 712 (by decide +kernel) rfl⟩
theorem lkL_130 : aw_LV RL 130 6 0 MX7_notes := ⟨⟨aw_pl 710 (by decide +kernel) rfl, viX7_notes⟩, okX7_notes, by decide +kernel⟩
theorem okX8_notes : aw_ok MX8_notes 0 := ⟨aw_pl 1158 (by decide +kernel) rfl, aw_pl 62 (by decide +kernel) rfl, ⟨by decide +kernel, by decide +kernel⟩, by decide +kernel, by decide⟩
theorem viX8_notes : Cond.instanceMethod (aw_y MX8_notes) ∈ aw_tbl ∧ Cond.selects (aw_y MX8_notes).cls (aw_y MX8_notes) (aw_y MX8_notes) ∈ aw_tbl := ⟨aw_pl 1156 (by decide +kernel) rfl, aw_pl 1157 (by decide +kernel) rfl⟩
theorem lkL_133 : aw_LV RL 133 7 0 MX8_notes := ⟨⟨aw_pl 1155 (by decide +kernel) rfl, viX8_notes⟩, okX8_notes, by decide +kernel⟩
theorem okX7_mark : aw_ok MX7_mark 0 := ⟨aw_pl 717 (by decide +kernel) rfl, aw_pl 54 (by decide +kernel) rfl, ⟨by decide +kernel, by decide +kernel⟩, by decide +kernel, by decide⟩
theorem viX7_mark : Cond.instanceMethod (aw_y MX7_mark) ∈ aw_tbl ∧ Cond.selects (aw_y MX7_mark).cls (aw_y MX7_mark) (aw_y MX7_mark) ∈ aw_tbl := ⟨aw_pl 715 (by decide +kernel) rfl, aw_pl 716 (by decide +kernel) rfl⟩
theorem lkL_134 : aw_LV RL 134 6 0 MX7_mark := ⟨⟨aw_pl 714 (by decide +kernel) rfl, viX7_mark⟩, okX7_mark, by decide +kernel⟩
theorem okX8_mark : aw_ok MX8_mark 0 := ⟨aw_pl 1162 (by decide +kernel) rfl, aw_pl 62 (by decide +kernel) rfl, ⟨by decide +kernel, by decide +kernel⟩, by decide +kernel, by decide⟩
theorem viX8_mark : Cond.instanceMethod (aw_y MX8_mark) ∈ aw_tbl ∧ Cond.selects (aw_y MX8_mark).cls (aw_y MX8_mark) (aw_y MX8_mark) ∈ aw_tbl := ⟨aw_pl 1160 (by decide +kernel) rfl, aw_pl 1161 (by decide +kernel) rfl⟩
theorem lkL_138 : aw_LV RL 138 7 0 MX8_mark := ⟨⟨aw_pl 1159 (by decide +kernel) rfl, viX8_mark⟩, okX8_mark, by decide +kernel⟩
theorem okX7_trail : aw_ok MX7_trail 1 := ⟨aw_pl 721 (by decide +kernel) rfl, aw_pl 54 (by decide +kernel) rfl, ⟨by decide +kernel, by decide +kernel⟩, by decide +kernel, by decide⟩
theorem viX7_trail : Cond.instanceMethod (aw_y MX7_trail) ∈ aw_tbl ∧ Cond.selects (aw_y MX7_trail).cls (aw_y MX7_trail) (aw_y MX7_trail) ∈ aw_tbl := ⟨aw_pl 719 (by decide +kernel) rfl, aw_pl 720 (by decide +kernel) rfl⟩
theorem lkL_139 : aw_LV RL 139 6 1 MX7_trail := ⟨⟨aw_pl 718 (by decide +kernel) rfl, viX7_trail⟩, okX7_trail, by decide +kernel⟩
theorem okX8_trail : aw_ok MX8_trail 1 := ⟨aw_pl 1166 (by decide +kernel) rfl, aw_pl 62 (by decide +kernel) rfl, ⟨by decide +kernel, by decide +kernel⟩, by decide +kernel, by decide⟩
theorem viX8_trail : Cond.instanceMethod (aw_y MX8_trail) ∈ aw_tbl ∧ Cond.selects (aw_y MX8_trail).cls (aw_y MX8_trail) (aw_y MX8_trail) ∈ aw_tbl := ⟨aw_pl 1164 (by decide +kernel) rfl, aw_pl 1165 (by decide +kernel) rfl⟩
theorem lkL_142 : aw_LV RL 142 7 1 MX8_trail := ⟨⟨aw_pl 1163 (by decide +kernel) rfl, viX8_trail⟩, okX8_trail, by decide +kernel⟩
theorem okX7_least : aw_ok MX7_least 1 := ⟨aw_pl 729 (by decide +kernel) rfl, aw_pl 54 (by decide +kernel) rfl, ⟨by decide +kernel, by decide +kernel⟩, by decide +kernel, by decide⟩
theorem viX7_least : Cond.instanceMethod (aw_y MX7_least) ∈ aw_tbl ∧ Cond.selects (aw_y MX7_least).cls (aw_y MX7_least) (aw_y MX7_least) ∈ aw_tbl := ⟨aw_pl 727 (by decide +kernel) rfl, aw_pl 728 (by decide +kernel) rfl⟩
theorem lkL_143 : aw_LV RL 143 6 1 MX7_least := ⟨⟨aw_pl 726 (by decide +kernel) rfl, viX7_least⟩, okX7_least, by decide +kernel⟩
theorem okX8_least : aw_ok MX8_least 1 := ⟨aw_pl 1171 (by decide +kernel) rfl, aw_pl 62 (by decide +kernel) rfl, ⟨by decide +kernel, by decide +kernel⟩, by decide +kernel, by decide⟩
theorem viX8_least : Cond.instanceMethod (aw_y MX8_least) ∈ aw_tbl ∧ Cond.selects (aw_y MX8_least).cls (aw_y MX8_least) (aw_y MX8_least) ∈ aw_tbl := ⟨aw_pl 1169 (by decide +kernel) rfl, aw_pl 1170 (by decide +kernel) rfl⟩
theorem lkL_146 : aw_LV RL 146 7 1 MX8_least := ⟨⟨aw_pl 1168 (by decide +kernel) rfl, viX8_least⟩, okX8_least, by decide +kernel⟩
theorem okX7_sheet : aw_ok MX7_sheet 3 := ⟨aw_pl 734 (by decide +kernel) rfl, aw_pl 54 (by decide +kernel) rfl, ⟨by decide +kernel, by decide +kernel⟩, by decide +kernel, by decide⟩
theorem viX7_sheet : Cond.instanceMethod (aw_y MX7_sheet) ∈ aw_tbl ∧ Cond.selects (aw_y MX7_sheet).cls (aw_y MX7_sheet) (aw_y MX7_sheet) ∈ aw_tbl := ⟨aw_pl 732 (by decide +kernel) rfl, aw_pl 733 (by decide +kernel) rfl⟩
theorem lkL_147 : aw_LV RL 147 6 3 MX7_sheet := ⟨⟨aw_pl 731 (by decide +kernel) rfl, viX7_sheet⟩, okX7_sheet, by decide +kernel⟩
theorem okX8_sheet : aw_ok MX8_sheet 3 := ⟨aw_pl 1175 (by decide +kernel) rfl, aw_pl 62 (by decide +kernel) rfl, ⟨by decide +kernel, by decide +kernel⟩, by decide +kernel, by decide⟩
theorem viX8_sheet : Cond.instanceMethod (aw_y MX8_sheet) ∈ aw_tbl ∧ Cond.selects (aw_y MX8_sheet).cls (aw_y MX8_sheet) (aw_y MX8_sheet) ∈ aw_tbl := ⟨aw_pl 1173 (by decide +kernel) rfl, aw_pl 1174 (by decide +kernel) rfl⟩
theorem lkL_150 : aw_LV RL 150 7 3 MX8_sheet := ⟨⟨aw_pl 1172 (by decide +kernel) rfl, viX8_sheet⟩, okX8_sheet, by decide +kernel⟩
theorem okX7_cell : aw_ok MX7_cell 3 := ⟨aw_pl 739 (by decide +kernel) rfl, aw_pl 54 (by decide +kernel) rfl, ⟨by decide +kernel, by decide +kernel⟩, by decide +kernel, by decide⟩
theorem viX7_cell : Cond.instanceMethod (aw_y MX7_cell) ∈ aw_tbl ∧ Cond.selects (aw_y MX7_cell).cls (aw_y MX7_cell) (aw_y MX7_cell) ∈ aw_tbl := ⟨aw_pl 737 (by decide +kernel) rfl, aw_pl 738 (by decide +kernel) rfl⟩
theorem lkL_153 : aw_LV RL 153 6 3 MX7_cell := ⟨⟨aw_pl 736 (by decide +kernel) rfl, viX7_cell⟩, okX7_cell, by decide +kernel⟩
theorem okX8_cell : aw_ok MX8_cell 3 := ⟨aw_pl 1180 (by decide +kernel) rfl, aw_pl 62 (by decide +kernel) rfl, ⟨by decide +kernel, by decide +kernel⟩, by decide +kernel, by decide⟩
theorem viX8_cell : Cond.instanceMethod (aw_y MX8_cell) ∈ aw_tbl ∧ Cond.selects (aw_y MX8_cell).cls (aw_y MX8_cell) (aw_y MX8_cell) ∈ aw_tbl := ⟨aw_pl 1178 (by decide +kernel) rfl, aw_pl 1179 (by decide +kernel) rfl⟩
theorem lkL_157 : aw_LV RL 157 7 3 MX8_cell := ⟨⟨aw_pl 1177 (by decide +kernel) rfl, viX8_cell⟩, okX8_cell, by decide +kernel⟩
theorem okX7_read : aw_ok MX7_read 2 := ⟨aw_pl 748 (by decide +kernel) rfl, aw_pl 54 (by decide +kernel) rfl, ⟨by decide +kernel, by decide +kernel⟩, by decide +kernel, by decide⟩
theorem viX7_read : Cond.instanceMethod (aw_y MX7_read) ∈ aw_tbl ∧ Cond.selects (aw_y MX7_read).cls (aw_y MX7_read) (aw_y MX7_read) ∈ aw_tbl := ⟨aw_pl 746 (by decide +kernel) rfl, aw_pl 747 (by decide +kernel) rfl⟩
theorem lkL_158 : aw_LV RL 158 6 2 MX7_read := ⟨⟨aw_pl 745 (by decide +kernel) rfl, viX7_read⟩, okX7_read, by decide +kernel⟩
theorem okX8_read : aw_ok MX8_read 2 := ⟨aw_pl 1188 (by decide +kernel) rfl, aw_pl 62 (by decide +kernel) rfl, ⟨by decide +kernel, by decide +kernel⟩, by decide +kernel, by decide⟩
theorem viX8_read : Cond.instanceMethod (aw_y MX8_read) ∈ aw_tbl ∧ Cond.selects (aw_y MX8_read).cls (aw_y MX8_read) (aw_y MX8_read) ∈ aw_tbl := ⟨aw_pl 1186 (by decide +kernel) rfl, aw_pl 1187 (by decide +kernel) rfl⟩
theorem lkL_161 : aw_LV RL 161 7 2 MX8_read := ⟨⟨aw_pl 1185 (by decide +kernel) rfl, viX8_read⟩, okX8_read, by decide +kernel⟩
theorem okX7_copy : aw_ok MX7_copy 5 := ⟨aw_pl 753 (by decide +kernel) rfl, aw_pl 54 (by decide +kernel) rfl, ⟨by decide +kernel, by decide +kernel⟩, by decide +kernel, by decide⟩
theorem viX7_copy : Cond.instanceMethod (aw_y MX7_copy) ∈ aw_tbl ∧ Cond.selects (aw_y MX7_copy).cls (aw_y MX7_copy) (aw_y MX7_copy) ∈ aw_tbl := ⟨aw_pl 751 (by decide +kernel) rfl, aw_pl 752 (by decide +kernel) rfl⟩
theorem lkL_162 : aw_LV RL 162 6 5 MX7_copy := ⟨⟨aw_pl 750 (by decide +kernel) rfl, viX7_copy⟩, okX7_copy, by decide +kernel⟩
theorem okX8_copy : aw_ok MX8_copy 5 := ⟨aw_pl 1192 (by decide +kernel) rfl, aw_pl 62 (by decide +kernel) rfl, ⟨by decide +kernel, by decide +kernel⟩, by decide +kernel, by decide⟩
theorem viX8_copy : Cond.instanceMethod (aw_y MX8_copy) ∈ aw_tbl ∧ Cond.selects (aw_y MX8_copy).cls (aw_y MX8_copy) (aw_y MX8_copy) ∈ aw_tbl := ⟨aw_pl 1190 (by decide +kernel) rfl, aw_pl 1191 (by decide +kernel) rfl⟩
theorem lkL_166 : aw_LV RL 166 7 5 MX8_copy := ⟨⟨aw_pl 1189 (by decide +kernel) rfl, viX8_copy⟩, okX8_copy, by decide +kernel⟩
theorem okX7_image : aw_ok MX7_image 0 := ⟨aw_pl 766 (by decide +kernel) rfl, aw_pl 54 (by decide +kernel) rfl, ⟨by decide +kernel, by decide +kernel⟩, by decide +kernel, by decide⟩
theorem viX7_image : Cond.instanceMethod (aw_y MX7_image) ∈ aw_tbl ∧ Cond.selects (aw_y MX7_image).cls (aw_y MX7_image) (aw_y MX7_image) ∈ aw_tbl := ⟨aw_pl 764 (by decide +kernel) rfl, aw_pl 765 (by decide +kernel) rfl⟩
theorem lkL_167 : aw_LV RL 167 6 0 MX7_image := ⟨⟨aw_pl 763 (by decide +kernel) rfl, viX7_image⟩, okX7_image, by decide +kernel⟩
theorem okX8_image : aw_ok MX8_image 0 := ⟨aw_pl 1196 (by decide +kernel) rfl, aw_pl 62 (by decide +kernel) rfl, ⟨by decide +kernel, by decide +kernel⟩, by decide +kernel, by decide⟩
theorem viX8_image : Cond.instanceMethod (aw_y MX8_image) ∈ aw_tbl ∧ Cond.selects (aw_y MX8_image).cls (aw_y MX8_image) (aw_y MX8_image) ∈ aw_tbl := ⟨aw_pl 1194 (by decide +kernel) rfl, aw_pl 1195 (by decide +kernel) rfl⟩
theorem lkL_170 : aw_LV RL 170 7 0 MX8_image := ⟨⟨aw_pl 1193 (by decide +kernel) rfl, viX8_image⟩, okX8_image, by decide +kernel⟩
theorem okX7_back : aw_ok MX7_back 0 := ⟨aw_pl 770 (by decide +kernel) rfl, aw_pl 54 (by decide +kernel) rfl, ⟨by decide +kernel, by decide +kernel⟩, by decide +kernel, by decide⟩
theorem viX7_back : Cond.instanceMethod (aw_y MX7_back) ∈ aw_tbl ∧ Cond.selects (aw_y MX7_back).cls (aw_y MX7_back) (aw_y MX7_back) ∈ aw_tbl := ⟨aw_pl 768 (by decide +kernel) rfl, aw_pl 769 (by decide +kernel) rfl⟩
theorem lkL_171 : aw_LV RL 171 6 0 MX7_back := ⟨⟨aw_pl 767 (by decide +kernel) rfl, viX7_back⟩, okX7_back, by decide +kernel⟩
theorem okX8_back : aw_ok MX8_back 0 := ⟨aw_pl 1200 (by decide +kernel) rfl, aw_pl 62 (by decide +kernel) rfl, ⟨by decide +kernel, by decide +kernel⟩, by decide +kernel, by decide⟩
theorem viX8_back : Cond.instanceMethod (aw_y MX8_back) ∈ aw_tbl ∧ Cond.selects (aw_y MX8_back).cls (aw_y MX8_back) (aw_y MX8_back) ∈ aw_tbl := ⟨aw_pl 1198 (by decide +kernel) rfl, aw_pl 1199 (by decide +kernel) rfl⟩
theorem lkL_174 : aw_LV RL 174 7 0 MX8_back := ⟨⟨aw_pl 1197 (by decide +kernel) rfl, viX8_back⟩, okX8_back, by decide +kernel⟩
theorem okX7_count : aw_ok MX7_count 1 := ⟨aw_pl 774 (by decide +kernel) rfl, aw_pl 54 (by decide +kernel) rfl, ⟨by decide +kernel, by decide +kernel⟩, by decide +kernel, by decide⟩
theorem viX7_count : Cond.instanceMethod (aw_y MX7_count) ∈ aw_tbl ∧ Cond.selects (aw_y MX7_count).cls (aw_y MX7_count) (aw_y MX7_count) ∈ aw_tbl := ⟨aw_pl 772 (by decide +kernel) rfl, aw_pl 773 (by decide +kernel) rfl⟩
theorem lkL_175 : aw_LV RL 175 6 1 MX7_count := ⟨⟨aw_pl 771 (by decide +kernel) rfl, viX7_count⟩, okX7_count, by decide +kernel⟩
theorem okX8_count : aw_ok MX8_count 1 := ⟨aw_pl 1204 (by decide +kernel) rfl, aw_pl 62 (by decide +kernel) rfl, ⟨by decide +kernel, by decide +kernel⟩, by decide +kernel, by decide⟩
theorem viX8_count : Cond.instanceMethod (aw_y MX8_count) ∈ aw_tbl ∧ Cond.selects (aw_y MX8_count).cls (aw_y MX8_count) (aw_y MX8_count) ∈ aw_tbl := ⟨aw_pl 1202 (by decide +kernel) rfl, aw_pl 1203 (by decide +kernel) rfl⟩
theorem lkL_178 : aw_LV RL 178 7 1 MX8_count := ⟨⟨aw_pl 1201 (by decide +kernel) rfl, viX8_count⟩, okX8_count, by decide +kernel⟩
theorem okX3_isLess : aw_ok MX3_isLess 4 := ⟨aw_pl 592 (by decide +kernel) rfl, aw_pl 65 (by decide +kernel) rfl, ⟨by decide +kernel, by decide +kernel⟩, by decide +kernel, by decide⟩
theorem siX3_isLess : Cond.static (aw_y MX3_isLess) ∈ aw_tbl := aw_pl 591 (by decide +kernel) rfl
theorem lkX0_28 : aw_LS RX0 28 4 MX3_isLess := ⟨⟨aw_pl 709 (by decide +kernel) rfl, siX3_isLess⟩, okX3_isLess⟩
theorem okX1_makeRound : aw_ok MX1_makeRound 0 := ⟨aw_pl 276 (by decide +kernel) rfl, aw_pl 55 (by decide +kernel) rfl, ⟨by decide +kernel, by decide +kernel⟩, by decide +kernel, by decide⟩
theorem viX1_makeRound : Cond.instanceMethod (aw_y MX1_makeRound) ∈ aw_tbl ∧ Cond.selects (aw_y MX1_makeRound).cls (aw_y MX1_makeRound) (aw_y MX1_makeRound) ∈ aw_tbl := ⟨aw_pl 274 (by decide +kernel) rfl, aw_pl 275 (by decide +kernel) rfl⟩
theorem lkX1_40 : aw_LV RX1 40 1 0 MX1_makeRound := ⟨⟨aw_pl 273 (by decide +kernel) rfl, viX1_makeRound⟩, okX1_makeRound, by decide +kernel⟩
theorem okJ7_fill_53178 : aw_ok MJ7_fill_53178 2 := ⟨aw_pl 215 (by decide +kernel) rfl, aw_pl 59 (by decide +kernel) rfl, ⟨by decide +kernel, by decide +kernel⟩, by decide +kernel, by decide⟩
theorem siJ7_fill_53178 : Cond.static (aw_y MJ7_fill_53178) ∈ aw_tbl := aw_pl 214 (by decide +kernel) rfl
theorem lkX1_43 : aw_LS RX1 43 2 MJ7_fill_53178 := ⟨⟨aw_pl 277 (by decide +kernel) rfl, siJ7_fill_53178⟩, okJ7_fill_53178⟩
theorem okX1_putBend : aw_ok MX1_putBend 3 := ⟨aw_pl 281 (by decide +kernel) rfl, aw_pl 55 (by decide +kernel) rfl, ⟨by decide +kernel, by decide +kernel⟩, by decide +kernel, by decide⟩
theorem viX1_putBend : Cond.instanceMethod (aw_y MX1_putBend) ∈ aw_tbl ∧ Cond.selects (aw_y MX1_putBend).cls (aw_y MX1_putBend) (aw_y MX1_putBend) ∈ aw_tbl := ⟨aw_pl 279 (by decide +kernel) rfl, aw_pl 280 (by decide +kernel) rfl⟩
theorem lkX1_49 : aw_LV RX1 49 1 3 MX1_putBend := ⟨⟨aw_pl 278 (by decide +kernel) rfl, viX1_putBend⟩, okX1_putBend, by decide +kernel⟩
theorem okX1_boundOf : aw_ok MX1_boundOf 2 := ⟨aw_pl 385 (by decide +kernel) rfl, aw_pl 55 (by decide +kernel) rfl, ⟨by decide +kernel, by decide +kernel⟩, by decide +kernel, by decide⟩
theorem viX1_boundOf : Cond.instanceMethod (aw_y MX1_boundOf) ∈ aw_tbl ∧ Cond.selects (aw_y MX1_boundOf).cls (aw_y MX1_boundOf) (aw_y MX1_boundOf) ∈ aw_tbl := ⟨aw_pl 383 (by decide +kernel) rfl, aw_pl 384 (by decide +kernel) rfl⟩
theorem lkX1_59 : aw_LV RX1 59 1 2 MX1_boundOf := ⟨⟨aw_pl 460 (by decide +kernel) rfl, viX1_boundOf⟩, okX1_boundOf, by decide +kernel⟩
theorem okX1_isOn : aw_ok MX1_isOn 1 := ⟨aw_pl 480 (by decide +kernel) rfl, aw_pl 55 (by decide +kernel) rfl, ⟨by decide +kernel, by decide +kernel⟩, by decide +kernel, by decide⟩
theorem viX1_isOn : Cond.instanceMethod (aw_y MX1_isOn) ∈ aw_tbl ∧ Cond.selects (aw_y MX1_isOn).cls (aw_y MX1_isOn) (aw_y MX1_isOn) ∈ aw_tbl := ⟨aw_pl 478 (by decide +kernel) rfl, aw_pl 479 (by decide +kernel) rfl⟩
theorem lkX1_63 : aw_LV RX1 63 1 1 MX1_isOn := ⟨⟨aw_pl 494 (by decide +kernel) rfl, viX1_isOn⟩, okX1_isOn, by decide +kernel⟩
theorem okX1_bendOf : aw_ok MX1_bendOf 2 := ⟨aw_pl 331 (by decide +kernel) rfl, aw_pl 55 (by decide +kernel) rfl, ⟨by decide +kernel, by decide +kernel⟩, by decide +kernel, by decide⟩
theorem viX1_bendOf : Cond.instanceMethod (aw_y MX1_bendOf) ∈ aw_tbl ∧ Cond.selects (aw_y MX1_bendOf).cls (aw_y MX1_bendOf) (aw_y MX1_bendOf) ∈ aw_tbl := ⟨aw_pl 329 (by decide +kernel) rfl, aw_pl 330 (by decide +kernel) rfl⟩
theorem lkX1_67 : aw_LV RX1 67 1 2 MX1_bendOf := ⟨⟨aw_pl 398 (by decide +kernel) rfl, viX1_bendOf⟩, okX1_bendOf, by decide +kernel⟩
theorem okX1_determinant : aw_ok MX1_determinant 1 := ⟨aw_pl 397 (by decide +kernel) rfl, aw_pl 55 (by decide +kernel) rfl, ⟨by decide +kernel, by decide +kernel⟩, by decide +kernel, by decide⟩
theorem viX1_determinant : Cond.instanceMethod (aw_y MX1_determinant) ∈ aw_tbl ∧ Cond.selects (aw_y MX1_determinant).cls (aw_y MX1_determinant) (aw_y MX1_determinant) ∈ aw_tbl := ⟨aw_pl 395 (by decide +kernel) rfl, aw_pl 396 (by decide +kernel) rfl⟩
theorem lkX1_70 : aw_LV RX1 70 1 1 MX1_determinant := ⟨⟨aw_pl 407 (by decide +kernel) rfl, viX1_determinant⟩, okX1_determinant, by decide +kernel⟩
theorem okX1_rowOf : aw_ok MX1_rowOf 2 := ⟨aw_pl 389 (by decide +kernel) rfl, aw_pl 55 (by decide +kernel) rfl, ⟨by decide +kernel, by decide +kernel⟩, by decide +kernel, by decide⟩
theorem viX1_rowOf : Cond.instanceMethod (aw_y MX1_rowOf) ∈ aw_tbl ∧ Cond.selects (aw_y MX1_rowOf).cls (aw_y MX1_rowOf) (aw_y MX1_rowOf) ∈ aw_tbl := ⟨aw_pl 387 (by decide +kernel) rfl, aw_pl 388 (by decide +kernel) rfl⟩
theorem lkX1_80 : aw_LV RX1 80 1 2 MX1_rowOf := ⟨⟨aw_pl 489 (by decide +kernel) rfl, viX1_rowOf⟩, okX1_rowOf, by decide +kernel⟩
theorem okX2_sharedBy : aw_ok MX2_sharedBy 1 := ⟨aw_pl 632 (by decide +kernel) rfl, aw_pl 60 (by decide +kernel) rfl, ⟨by decide +kernel, by decide +kernel⟩, by decide +kernel, by decide⟩
theorem viX2_sharedBy : Cond.instanceMethod (aw_y MX2_sharedBy) ∈ aw_tbl ∧ Cond.selects (aw_y MX2_sharedBy).cls (aw_y MX2_sharedBy) (aw_y MX2_sharedBy) ∈ aw_tbl := ⟨aw_pl 631 (by decide +kernel) rfl, aw_pl 15 (by decide +kernel) rfl⟩
theorem lkX2_31 : aw_LV RX2 31 2 1 MX2_sharedBy := ⟨⟨aw_pl 629 (by decide +kernel) rfl, viX2_sharedBy⟩, okX2_sharedBy, by decide +kernel⟩
theorem okX2_length : aw_ok MX2_length 0 := ⟨aw_pl 637 (by decide +kernel) rfl, aw_pl 60 (by decide +kernel) rfl, ⟨by decide +kernel, by decide +kernel⟩, by decide +kernel, by decide⟩
theorem viX2_length : Cond.instanceMethod (aw_y MX2_length) ∈ aw_tbl ∧ Cond.selects (aw_y MX2_length).cls (aw_y MX2_length) (aw_y MX2_length) ∈ aw_tbl := ⟨aw_pl 635 (by decide +kernel) rfl, aw_pl 636 (by decide +kernel) rfl⟩
theorem lkX2_35 : aw_LV RX2 35 2 0 MX2_length := ⟨⟨aw_pl 634 (by decide +kernel) rfl, viX2_length⟩, okX2_length, by decide +kernel⟩
theorem okX5_begin : aw_ok MX5_begin 3 := ⟨aw_pl 641 (by decide +kernel) rfl, aw_pl 58 (by decide +kernel) rfl, ⟨by decide +kernel, by decide +kernel⟩, by decide +kernel, by decide⟩
theorem viX5_begin : Cond.instanceMethod (aw_y MX5_begin) ∈ aw_tbl ∧ Cond.selects (aw_y MX5_begin).cls (aw_y MX5_begin) (aw_y MX5_begin) ∈ aw_tbl := ⟨aw_pl 639 (by decide +kernel) rfl, aw_pl 640 (by decide +kernel) rfl⟩
theorem lkX2_39 : aw_LV RX2 39 4 3 MX5_begin := ⟨⟨aw_pl 638 (by decide +kernel) rfl, viX5_begin⟩, okX5_begin, by decide +kernel⟩
theorem okX5_put : aw_ok MX5_put 3 := ⟨aw_pl 645 (by decide +kernel) rfl, aw_pl 58 (by decide +kernel) rfl, ⟨by decide +kernel, by decide +kernel⟩, by decide +kernel, by decide⟩
theorem viX5_put : Cond.instanceMethod (aw_y MX5_put) ∈ aw_tbl ∧ Cond.selects (aw_y MX5_put).cls (aw_y MX5_put) (aw_y MX5_put) ∈ aw_tbl := ⟨aw_pl 643 (by decide +kernel) rfl, aw_pl 644 (by decide +kernel) rfl⟩
theorem lkX2_49 : aw_LV RX2 49 4 3 MX5_put := ⟨⟨aw_pl 646 (by decide +kernel) rfl, viX5_put⟩, okX5_put, by decide +kernel⟩
theorem okX3_shared : aw_ok MX3_shared 2 := ⟨aw_pl 508 (by decide +kernel) rfl, aw_pl 65 (by decide +kernel) rfl, ⟨by decide +kernel, by decide +kernel⟩, by decide +kernel, by decide⟩
theorem siX3_shared : Cond.static (aw_y MX3_shared) ∈ aw_tbl := aw_pl 507 (by decide +kernel) rfl
theorem lkX2_60 : aw_LS RX2 60 2 MX3_shared := ⟨⟨aw_pl 633 (by decide +kernel) rfl, siX3_shared⟩, okX3_shared⟩
theorem okX5_at : aw_ok MX5_at 2 := ⟨aw_pl 660 (by decide +kernel) rfl, aw_pl 58 (by decide +kernel) rfl, ⟨by decide +kernel, by decide +kernel⟩, by decide +kernel, by decide⟩
theorem viX5_at : Cond.instanceMethod (aw_y MX5_at) ∈ aw_tbl ∧ Cond.selects (aw_y MX5_at).cls (aw_y MX5_at) (aw_y MX5_at) ∈ aw_tbl := ⟨aw_pl 658 (by decide +kernel) rfl, aw_pl 659 (by decide +kernel) rfl⟩
theorem lkX2_66 : aw_LV RX2 66 4 2 MX5_at := ⟨⟨aw_pl 665 (by decide +kernel) rfl, viX5_at⟩, okX5_at, by decide +kernel⟩
theorem okX2_isBalanced : aw_ok MX2_isBalanced 0 := ⟨aw_pl 673 (by decide +kernel) rfl, aw_pl 60 (by decide +kernel) rfl, ⟨by decide +kernel, by decide +kernel⟩, by decide +kernel, by decide⟩
theorem viX2_isBalanced : Cond.instanceMethod (aw_y MX2_isBalanced) ∈ aw_tbl ∧ Cond.selects (aw_y MX2_isBalanced).cls (aw_y MX2_isBalanced) (aw_y MX2_isBalanced) ∈ aw_tbl := ⟨aw_pl 672 (by decide +kernel) rfl, aw_pl 16 (by decide +kernel) rfl⟩
theorem lkX2_70 : aw_LV RX2 70 2 0 MX2_isBalanced := ⟨⟨aw_pl 670 (by decide +kernel) rfl, viX2_isBalanced⟩, okX2_isBalanced, by decide +kernel⟩
theorem okX2_isWeighedRight : aw_ok MX2_isWeighedRight 0 := ⟨aw_pl 679 (by decide +kernel) rfl, aw_pl 60 (by decide +kernel) rfl, ⟨by decide +kernel, by decide +kernel⟩, by decide +kernel, by decide⟩
theorem viX2_isWeighedRight : Cond.instanceMethod (aw_y MX2_isWeighedRight) ∈ aw_tbl ∧ Cond.selects (aw_y MX2_isWeighedRight).cls (aw_y MX2_isWeighedRight) (aw_y MX2_isWeighedRight) ∈ aw_tbl := ⟨aw_pl 678 (by decide +kernel) rfl, aw_pl 17 (by decide +kernel) rfl⟩
theorem lkX2_74 : aw_LV RX2 74 2 0 MX2_isWeighedRight := ⟨⟨aw_pl 676 (by decide +kernel) rfl, viX2_isWeighedRight⟩, okX2_isWeighedRight, by decide +kernel⟩
theorem okX2_isHeld : aw_ok MX2_isHeld 0 := ⟨aw_pl 684 (by decide +kernel) rfl, aw_pl 60 (by decide +kernel) rfl, ⟨by decide +kernel, by decide +kernel⟩, by decide +kernel, by decide⟩
theorem viX2_isHeld : Cond.instanceMethod (aw_y MX2_isHeld) ∈ aw_tbl ∧ Cond.selects (aw_y MX2_isHeld).cls (aw_y MX2_isHeld) (aw_y MX2_isHeld) ∈ aw_tbl := ⟨aw_pl 683 (by decide +kernel) rfl, aw_pl 18 (by decide +kernel) rfl⟩
theorem lkX2_77 : aw_LV RX2 77 2 0 MX2_isHeld := ⟨⟨aw_pl 681 (by decide +kernel) rfl, viX2_isHeld⟩, okX2_isHeld, by decide +kernel⟩
theorem okX2_isWeightOnlyWhereTight : aw_ok MX2_isWeightOnlyWhereTight 0 := ⟨aw_pl 695 (by decide +kernel) rfl, aw_pl 60 (by decide +kernel) rfl, ⟨by decide +kernel, by decide +kernel⟩, by decide +kernel, by decide⟩
theorem viX2_isWeightOnlyWhereTight : Cond.instanceMethod (aw_y MX2_isWeightOnlyWhereTight) ∈ aw_tbl ∧ Cond.selects (aw_y MX2_isWeightOnlyWhereTight).cls (aw_y MX2_isWeightOnlyWhereTight) (aw_y MX2_isWeightOnlyWhereTight) ∈ aw_tbl := ⟨aw_pl 694 (by decide +kernel) rfl, aw_pl 20 (by decide +kernel) rfl⟩
theorem lkX2_80 : aw_LV RX2 80 2 0 MX2_isWeightOnlyWhereTight := ⟨⟨aw_pl 692 (by decide +kernel) rfl, viX2_isWeightOnlyWhereTight⟩, okX2_isWeightOnlyWhereTight, by decide +kernel⟩
theorem lkX2_86 : aw_LV RX2 86 1 2 MX1_boundOf := ⟨⟨aw_pl 689 (by decide +kernel) rfl, viX1_boundOf⟩, okX1_boundOf, by decide +kernel⟩
theorem okX1_leftOf : aw_ok MX1_leftOf 3 := ⟨aw_pl 488 (by decide +kernel) rfl, aw_pl 55 (by decide +kernel) rfl, ⟨by decide +kernel, by decide +kernel⟩, by decide +kernel, by decide⟩
theorem viX1_leftOf : Cond.instanceMethod (aw_y MX1_leftOf) ∈ aw_tbl ∧ Cond.selects (aw_y MX1_leftOf).cls (aw_y MX1_leftOf) (aw_y MX1_leftOf) ∈ aw_tbl := ⟨aw_pl 486 (by decide +kernel) rfl, aw_pl 487 (by decide +kernel) rfl⟩
theorem lkX2_90 : aw_LV RX2 90 1 3 MX1_leftOf := ⟨⟨aw_pl 690 (by decide +kernel) rfl, viX1_leftOf⟩, okX1_leftOf, by decide +kernel⟩
theorem lkX2_98 : aw_LV RX2 98 1 2 MX1_bendOf := ⟨⟨aw_pl 674 (by decide +kernel) rfl, viX1_bendOf⟩, okX1_bendOf, by decide +kernel⟩
theorem lkX2_101 : aw_LV RX2 101 1 2 MX1_rowOf := ⟨⟨aw_pl 675 (by decide +kernel) rfl, viX1_rowOf⟩, okX1_rowOf, by decide +kernel⟩
theorem lkX2_104 : aw_LV RX2 104 1 1 MX1_isOn := ⟨⟨aw_pl 680 (by decide +kernel) rfl, viX1_isOn⟩, okX1_isOn, by decide +kernel⟩
theorem okX2_slackOf : aw_ok MX2_slackOf 1 := ⟨aw_pl 688 (by decide +kernel) rfl, aw_pl 60 (by decide +kernel) rfl, ⟨by decide +kernel, by decide +kernel⟩, by decide +kernel, by decide⟩
theorem viX2_slackOf : Cond.instanceMethod (aw_y MX2_slackOf) ∈ aw_tbl ∧ Cond.selects (aw_y MX2_slackOf).cls (aw_y MX2_slackOf) (aw_y MX2_slackOf) ∈ aw_tbl := ⟨aw_pl 687 (by decide +kernel) rfl, aw_pl 19 (by decide +kernel) rfl⟩
theorem lkX2_108 : aw_LV RX2 108 2 1 MX2_slackOf := ⟨⟨aw_pl 685 (by decide +kernel) rfl, viX2_slackOf⟩, okX2_slackOf, by decide +kernel⟩
theorem okX1_isHeldBy : aw_ok MX1_isHeldBy 2 := ⟨aw_pl 493 (by decide +kernel) rfl, aw_pl 55 (by decide +kernel) rfl, ⟨by decide +kernel, by decide +kernel⟩, by decide +kernel, by decide⟩
theorem viX1_isHeldBy : Cond.instanceMethod (aw_y MX1_isHeldBy) ∈ aw_tbl ∧ Cond.selects (aw_y MX1_isHeldBy).cls (aw_y MX1_isHeldBy) (aw_y MX1_isHeldBy) ∈ aw_tbl := ⟨aw_pl 491 (by decide +kernel) rfl, aw_pl 492 (by decide +kernel) rfl⟩
theorem lkX2_112 : aw_LV RX2 112 1 2 MX1_isHeldBy := ⟨⟨aw_pl 691 (by decide +kernel) rfl, viX1_isHeldBy⟩, okX1_isHeldBy, by decide +kernel⟩
theorem lkX3_7 : aw_LS RX3 7 2 MX3_shared := ⟨⟨aw_pl 506 (by decide +kernel) rfl, siX3_shared⟩, okX3_shared⟩
theorem okJ9_abs_067f4 : aw_ok MJ9_abs_067f4 1 := ⟨aw_pl 511 (by decide +kernel) rfl, aw_pl 66 (by decide +kernel) rfl, ⟨by decide +kernel, by decide +kernel⟩, by decide +kernel, by decide⟩
theorem siJ9_abs_067f4 : Cond.static (aw_y MJ9_abs_067f4) ∈ aw_tbl := aw_pl 510 (by decide +kernel) rfl
theorem lkX3_13 : aw_LS RX3 13 1 MJ9_abs_067f4 := ⟨⟨aw_pl 509 (by decide +kernel) rfl, siJ9_abs_067f4⟩, okJ9_abs_067f4⟩
theorem okJ9_floorDiv_f86c9 : aw_ok MJ9_floorDiv_f86c9 2 := ⟨aw_pl 595 (by decide +kernel) rfl, aw_pl 66 (by decide +kernel) rfl, ⟨by decide +kernel, by decide +kernel⟩, by decide +kernel, by decide⟩
theorem siJ9_floorDiv_f86c9 : Cond.static (aw_y MJ9_floorDiv_f86c9) ∈ aw_tbl := aw_pl 594 (by decide +kernel) rfl
theorem lkX3_19 : aw_LS RX3 19 2 MJ9_floorDiv_f86c9 := ⟨⟨aw_pl 593 (by decide +kernel) rfl, siJ9_floorDiv_f86c9⟩, okJ9_floorDiv_f86c9⟩
theorem lkX5_22 : aw_LS RX5 22 2 MJ7_fill_53178 := ⟨⟨aw_pl 213 (by decide +kernel) rfl, siJ7_fill_53178⟩, okJ7_fill_53178⟩
theorem lkX5_28 : aw_LV RX5 28 4 3 MX5_put := ⟨⟨aw_pl 642 (by decide +kernel) rfl, viX5_put⟩, okX5_put, by decide +kernel⟩
theorem lkX5_38 : aw_LV RX5 38 4 2 MX5_at := ⟨⟨aw_pl 657 (by decide +kernel) rfl, viX5_at⟩, okX5_at, by decide +kernel⟩
theorem okX6_meet : aw_ok MX6_meet 1 := ⟨aw_pl 431 (by decide +kernel) rfl, aw_pl 56 (by decide +kernel) rfl, ⟨by decide +kernel, by decide +kernel⟩, by decide +kernel, by decide⟩
theorem viX6_meet : Cond.instanceMethod (aw_y MX6_meet) ∈ aw_tbl ∧ Cond.selects (aw_y MX6_meet).cls (aw_y MX6_meet) (aw_y MX6_meet) ∈ aw_tbl := ⟨aw_pl 430 (by decide +kernel) rfl, aw_pl 4 (by decide +kernel) rfl⟩
theorem lkX6_40 : aw_LV RX6 40 5 1 MX6_meet := ⟨⟨aw_pl 428 (by decide +kernel) rfl, viX6_meet⟩, okX6_meet, by decide +kernel⟩
theorem okX6_layAt : aw_ok MX6_layAt 1 := ⟨aw_pl 472 (by decide +kernel) rfl, aw_pl 56 (by decide +kernel) rfl, ⟨by decide +kernel, by decide +kernel⟩, by decide +kernel, by decide⟩
theorem viX6_layAt : Cond.instanceMethod (aw_y MX6_layAt) ∈ aw_tbl ∧ Cond.selects (aw_y MX6_layAt).cls (aw_y MX6_layAt) (aw_y MX6_layAt) ∈ aw_tbl := ⟨aw_pl 471 (by decide +kernel) rfl, aw_pl 10 (by decide +kernel) rfl⟩
theorem lkX6_44 : aw_LV RX6 44 5 1 MX6_layAt := ⟨⟨aw_pl 469 (by decide +kernel) rfl, viX6_layAt⟩, okX6_layAt, by decide +kernel⟩
theorem okX6_fits : aw_ok MX6_fits 1 := ⟨aw_pl 476 (by decide +kernel) rfl, aw_pl 56 (by decide +kernel) rfl, ⟨by decide +kernel, by decide +kernel⟩, by decide +kernel, by decide⟩
theorem viX6_fits : Cond.instanceMethod (aw_y MX6_fits) ∈ aw_tbl ∧ Cond.selects (aw_y MX6_fits).cls (aw_y MX6_fits) (aw_y MX6_fits) ∈ aw_tbl := ⟨aw_pl 475 (by decide +kernel) rfl, aw_pl 11 (by decide +kernel) rfl⟩
theorem lkX6_48 : aw_LV RX6 48 5 1 MX6_fits := ⟨⟨aw_pl 473 (by decide +kernel) rfl, viX6_fits⟩, okX6_fits, by decide +kernel⟩
theorem okJ6_bitCount_0f7a4 : aw_ok MJ6_bitCount_0f7a4 1 := ⟨aw_pl 434 (by decide +kernel) rfl, aw_pl 64 (by decide +kernel) rfl, ⟨by decide +kernel, by decide +kernel⟩, by decide +kernel, by decide⟩
theorem siJ6_bitCount_0f7a4 : Cond.static (aw_y MJ6_bitCount_0f7a4) ∈ aw_tbl := aw_pl 433 (by decide +kernel) rfl
theorem lkX6_51 : aw_LS RX6 51 1 MJ6_bitCount_0f7a4 := ⟨⟨aw_pl 432 (by decide +kernel) rfl, siJ6_bitCount_0f7a4⟩, okJ6_bitCount_0f7a4⟩
theorem okX6_gather : aw_ok MX6_gather 1 := ⟨aw_pl 441 (by decide +kernel) rfl, aw_pl 56 (by decide +kernel) rfl, ⟨by decide +kernel, by decide +kernel⟩, by decide +kernel, by decide⟩
theorem viX6_gather : Cond.instanceMethod (aw_y MX6_gather) ∈ aw_tbl ∧ Cond.selects (aw_y MX6_gather).cls (aw_y MX6_gather) (aw_y MX6_gather) ∈ aw_tbl := ⟨aw_pl 440 (by decide +kernel) rfl, aw_pl 5 (by decide +kernel) rfl⟩
theorem lkX6_63 : aw_LV RX6 63 5 1 MX6_gather := ⟨⟨aw_pl 438 (by decide +kernel) rfl, viX6_gather⟩, okX6_gather, by decide +kernel⟩
theorem okX6_fillBowlRows : aw_ok MX6_fillBowlRows 0 := ⟨aw_pl 445 (by decide +kernel) rfl, aw_pl 56 (by decide +kernel) rfl, ⟨by decide +kernel, by decide +kernel⟩, by decide +kernel, by decide⟩
theorem viX6_fillBowlRows : Cond.instanceMethod (aw_y MX6_fillBowlRows) ∈ aw_tbl ∧ Cond.selects (aw_y MX6_fillBowlRows).cls (aw_y MX6_fillBowlRows) (aw_y MX6_fillBowlRows) ∈ aw_tbl := ⟨aw_pl 444 (by decide +kernel) rfl, aw_pl 6 (by decide +kernel) rfl⟩
theorem lkX6_66 : aw_LV RX6 66 5 0 MX6_fillBowlRows := ⟨⟨aw_pl 442 (by decide +kernel) rfl, viX6_fillBowlRows⟩, okX6_fillBowlRows, by decide +kernel⟩
theorem okX6_fillLineRows : aw_ok MX6_fillLineRows 0 := ⟨aw_pl 451 (by decide +kernel) rfl, aw_pl 56 (by decide +kernel) rfl, ⟨by decide +kernel, by decide +kernel⟩, by decide +kernel, by decide⟩
theorem viX6_fillLineRows : Cond.instanceMethod (aw_y MX6_fillLineRows) ∈ aw_tbl ∧ Cond.selects (aw_y MX6_fillLineRows).cls (aw_y MX6_fillLineRows) (aw_y MX6_fillLineRows) ∈ aw_tbl := ⟨aw_pl 450 (by decide +kernel) rfl, aw_pl 7 (by decide +kernel) rfl⟩
theorem lkX6_69 : aw_LV RX6 69 5 0 MX6_fillLineRows := ⟨⟨aw_pl 448 (by decide +kernel) rfl, viX6_fillLineRows⟩, okX6_fillLineRows, by decide +kernel⟩
theorem okX6_eliminate : aw_ok MX6_eliminate 0 := ⟨aw_pl 464 (by decide +kernel) rfl, aw_pl 56 (by decide +kernel) rfl, ⟨by decide +kernel, by decide +kernel⟩, by decide +kernel, by decide⟩
theorem viX6_eliminate : Cond.instanceMethod (aw_y MX6_eliminate) ∈ aw_tbl ∧ Cond.selects (aw_y MX6_eliminate).cls (aw_y MX6_eliminate) (aw_y MX6_eliminate) ∈ aw_tbl := ⟨aw_pl 463 (by decide +kernel) rfl, aw_pl 8 (by decide +kernel) rfl⟩
theorem lkX6_72 : aw_LV RX6 72 5 0 MX6_eliminate := ⟨⟨aw_pl 461 (by decide +kernel) rfl, viX6_eliminate⟩, okX6_eliminate, by decide +kernel⟩
theorem lkX6_82 : aw_LV RX6 82 1 2 MX1_bendOf := ⟨⟨aw_pl 446 (by decide +kernel) rfl, viX1_bendOf⟩, okX1_bendOf, by decide +kernel⟩
theorem lkX6_86 : aw_LV RX6 86 1 2 MX1_rowOf := ⟨⟨aw_pl 447 (by decide +kernel) rfl, viX1_rowOf⟩, okX1_rowOf, by decide +kernel⟩
theorem okJ7_fill_d0a16 : aw_ok MJ7_fill_d0a16 2 := ⟨aw_pl 454 (by decide +kernel) rfl, aw_pl 59 (by decide +kernel) rfl, ⟨by decide +kernel, by decide +kernel⟩, by decide +kernel, by decide⟩
theorem siJ7_fill_d0a16 : Cond.static (aw_y MJ7_fill_d0a16) ∈ aw_tbl := aw_pl 453 (by decide +kernel) rfl
theorem lkX6_92 : aw_LS RX6 92 2 MJ7_fill_d0a16 := ⟨⟨aw_pl 452 (by decide +kernel) rfl, siJ7_fill_d0a16⟩, okJ7_fill_d0a16⟩
theorem lkX6_98 : aw_LV RX6 98 1 2 MX1_boundOf := ⟨⟨aw_pl 455 (by decide +kernel) rfl, viX1_boundOf⟩, okX1_boundOf, by decide +kernel⟩
theorem okX1_driftOf : aw_ok MX1_driftOf 1 := ⟨aw_pl 459 (by decide +kernel) rfl, aw_pl 55 (by decide +kernel) rfl, ⟨by decide +kernel, by decide +kernel⟩, by decide +kernel, by decide⟩
theorem viX1_driftOf : Cond.instanceMethod (aw_y MX1_driftOf) ∈ aw_tbl ∧ Cond.selects (aw_y MX1_driftOf).cls (aw_y MX1_driftOf) (aw_y MX1_driftOf) ∈ aw_tbl := ⟨aw_pl 457 (by decide +kernel) rfl, aw_pl 458 (by decide +kernel) rfl⟩
theorem lkX6_101 : aw_LV RX6 101 1 1 MX1_driftOf := ⟨⟨aw_pl 456 (by decide +kernel) rfl, viX1_driftOf⟩, okX1_driftOf, by decide +kernel⟩
theorem okX6_clearRow : aw_ok MX6_clearRow 4 := ⟨aw_pl 468 (by decide +kernel) rfl, aw_pl 56 (by decide +kernel) rfl, ⟨by decide +kernel, by decide +kernel⟩, by decide +kernel, by decide⟩
theorem viX6_clearRow : Cond.instanceMethod (aw_y MX6_clearRow) ∈ aw_tbl ∧ Cond.selects (aw_y MX6_clearRow).cls (aw_y MX6_clearRow) (aw_y MX6_clearRow) ∈ aw_tbl := ⟨aw_pl 467 (by decide +kernel) rfl, aw_pl 9 (by decide +kernel) rfl⟩
theorem lkX6_104 : aw_LV RX6 104 5 4 MX6_clearRow := ⟨⟨aw_pl 465 (by decide +kernel) rfl, viX6_clearRow⟩, okX6_clearRow, by decide +kernel⟩
theorem lkX6_123 : aw_LV RX6 123 1 1 MX1_isOn := ⟨⟨aw_pl 477 (by decide +kernel) rfl, viX1_isOn⟩, okX1_isOn, by decide +kernel⟩
theorem okX6_slackOf : aw_ok MX6_slackOf 1 := ⟨aw_pl 484 (by decide +kernel) rfl, aw_pl 56 (by decide +kernel) rfl, ⟨by decide +kernel, by decide +kernel⟩, by decide +kernel, by decide⟩
theorem viX6_slackOf : Cond.instanceMethod (aw_y MX6_slackOf) ∈ aw_tbl ∧ Cond.selects (aw_y MX6_slackOf).cls (aw_y MX6_slackOf) (aw_y MX6_slackOf) ∈ aw_tbl := ⟨aw_pl 482 (by decide +kernel) rfl, aw_pl 483 (by decide +kernel) rfl⟩
theorem lkX6_126 : aw_LV RX6 126 5 1 MX6_slackOf := ⟨⟨aw_pl 481 (by decide +kernel) rfl, viX6_slackOf⟩, okX6_slackOf, by decide +kernel⟩
theorem lkX6_130 : aw_LV RX6 130 1 2 MX1_isHeldBy := ⟨⟨aw_pl 490 (by decide +kernel) rfl, viX1_isHeldBy⟩, okX1_isHeldBy, by decide +kernel⟩
theorem lkX6_134 : aw_LV RX6 134 1 3 MX1_leftOf := ⟨⟨aw_pl 485 (by decide +kernel) rfl, viX1_leftOf⟩, okX1_leftOf, by decide +kernel⟩
theorem okX6_find : aw_ok MX6_find 2 := ⟨aw_pl 427 (by decide +kernel) rfl, aw_pl 56 (by decide +kernel) rfl, ⟨by decide +kernel, by decide +kernel⟩, by decide +kernel, by decide⟩
theorem viX6_find : Cond.instanceMethod (aw_y MX6_find) ∈ aw_tbl ∧ Cond.selects (aw_y MX6_find).cls (aw_y MX6_find) (aw_y MX6_find) ∈ aw_tbl := ⟨aw_pl 425 (by decide +kernel) rfl, aw_pl 426 (by decide +kernel) rfl⟩
theorem lkX6_139 : aw_LV RX6 139 5 2 MX6_find := ⟨⟨aw_pl 557 (by decide +kernel) rfl, viX6_find⟩, okX6_find, by decide +kernel⟩
theorem okX1_allLines : aw_ok MX1_allLines 0 := ⟨aw_pl 419 (by decide +kernel) rfl, aw_pl 55 (by decide +kernel) rfl, ⟨by decide +kernel, by decide +kernel⟩, by decide +kernel, by decide⟩
theorem viX1_allLines : Cond.instanceMethod (aw_y MX1_allLines) ∈ aw_tbl ∧ Cond.selects (aw_y MX1_allLines).cls (aw_y MX1_allLines) (aw_y MX1_allLines) ∈ aw_tbl := ⟨aw_pl 417 (by decide +kernel) rfl, aw_pl 418 (by decide +kernel) rfl⟩
theorem lkX6_145 : aw_LV RX6 145 1 0 MX1_allLines := ⟨⟨aw_pl 558 (by decide +kernel) rfl, viX1_allLines⟩, okX1_allLines, by decide +kernel⟩
theorem okX6_heldLines : aw_ok MX6_heldLines 0 := ⟨aw_pl 540 (by decide +kernel) rfl, aw_pl 56 (by decide +kernel) rfl, ⟨by decide +kernel, by decide +kernel⟩, by decide +kernel, by decide⟩
theorem viX6_heldLines : Cond.instanceMethod (aw_y MX6_heldLines) ∈ aw_tbl ∧ Cond.selects (aw_y MX6_heldLines).cls (aw_y MX6_heldLines) (aw_y MX6_heldLines) ∈ aw_tbl := ⟨aw_pl 538 (by decide +kernel) rfl, aw_pl 539 (by decide +kernel) rfl⟩
theorem lkX6_149 : aw_LV RX6 149 5 0 MX6_heldLines := ⟨⟨aw_pl 559 (by decide +kernel) rfl, viX6_heldLines⟩, okX6_heldLines, by decide +kernel⟩
theorem lkX6_152 : aw_LS RX6 152 2 MJ7_fill_53178 := ⟨⟨aw_pl 572 (by decide +kernel) rfl, siJ7_fill_53178⟩, okJ7_fill_53178⟩
theorem okX6_claimTides : aw_ok MX6_claimTides 3 := ⟨aw_pl 576 (by decide +kernel) rfl, aw_pl 56 (by decide +kernel) rfl, ⟨by decide +kernel, by decide +kernel⟩, by decide +kernel, by decide⟩
theorem viX6_claimTides : Cond.instanceMethod (aw_y MX6_claimTides) ∈ aw_tbl ∧ Cond.selects (aw_y MX6_claimTides).cls (aw_y MX6_claimTides) (aw_y MX6_claimTides) ∈ aw_tbl := ⟨aw_pl 575 (by decide +kernel) rfl, aw_pl 12 (by decide +kernel) rfl⟩
theorem lkX6_155 : aw_LV RX6 155 5 3 MX6_claimTides := ⟨⟨aw_pl 573 (by decide +kernel) rfl, viX6_claimTides⟩, okX6_claimTides, by decide +kernel⟩
theorem lkX6_162 : aw_LS RX6 162 1 MJ9_abs_067f4 := ⟨⟨aw_pl 585 (by decide +kernel) rfl, siJ9_abs_067f4⟩, okJ9_abs_067f4⟩
theorem okX6_limitReach : aw_ok MX6_limitReach 2 := ⟨aw_pl 589 (by decide +kernel) rfl, aw_pl 56 (by decide +kernel) rfl, ⟨by decide +kernel, by decide +kernel⟩, by decide +kernel, by decide⟩
theorem viX6_limitReach : Cond.instanceMethod (aw_y MX6_limitReach) ∈ aw_tbl ∧ Cond.selects (aw_y MX6_limitReach).cls (aw_y MX6_limitReach) (aw_y MX6_limitReach) ∈ aw_tbl := ⟨aw_pl 588 (by decide +kernel) rfl, aw_pl 13 (by decide +kernel) rfl⟩
theorem lkX6_168 : aw_LV RX6 168 5 2 MX6_limitReach := ⟨⟨aw_pl 586 (by decide +kernel) rfl, viX6_limitReach⟩, okX6_limitReach, by decide +kernel⟩
theorem lkX6_175 : aw_LS RX6 175 4 MX3_isLess := ⟨⟨aw_pl 590 (by decide +kernel) rfl, siX3_isLess⟩, okX3_isLess⟩
theorem okX1_begin : aw_ok MX1_begin 1 := ⟨aw_pl 272 (by decide +kernel) rfl, aw_pl 55 (by decide +kernel) rfl, ⟨by decide +kernel, by decide +kernel⟩, by decide +kernel, by decide⟩
theorem viX1_begin : Cond.instanceMethod (aw_y MX1_begin) ∈ aw_tbl ∧ Cond.selects (aw_y MX1_begin).cls (aw_y MX1_begin) (aw_y MX1_begin) ∈ aw_tbl := ⟨aw_pl 270 (by decide +kernel) rfl, aw_pl 271 (by decide +kernel) rfl⟩
theorem lkX7_55 : aw_LV RX7 55 1 1 MX1_begin := ⟨⟨aw_pl 269 (by decide +kernel) rfl, viX1_begin⟩, okX1_begin, by decide +kernel⟩
theorem okX7_isVariable : aw_ok MX7_isVariable 1 := ⟨aw_pl 321 (by decide +kernel) rfl, aw_pl 54 (by decide +kernel) rfl, ⟨by decide +kernel, by decide +kernel⟩, by decide +kernel, by decide⟩
theorem viX7_isVariable : Cond.instanceMethod (aw_y MX7_isVariable) ∈ aw_tbl ∧ Cond.selects (aw_y MX7_isVariable).cls (aw_y MX7_isVariable) (aw_y MX7_isVariable) ∈ aw_tbl := ⟨aw_pl 320 (by decide +kernel) rfl, aw_pl 0 (by decide +kernel) rfl⟩
theorem lkX7_63 : aw_LV RX7 63 6 1 MX7_isVariable := ⟨⟨aw_pl 318 (by decide +kernel) rfl, viX7_isVariable⟩, okX7_isVariable, by decide +kernel⟩
theorem okX7_isBend : aw_ok MX7_isBend 2 := ⟨aw_pl 324 (by decide +kernel) rfl, aw_pl 54 (by decide +kernel) rfl, ⟨by decide +kernel, by decide +kernel⟩, by decide +kernel, by decide⟩
theorem siX7_isBend : Cond.static (aw_y MX7_isBend) ∈ aw_tbl := aw_pl 323 (by decide +kernel) rfl
theorem lkX7_67 : aw_LS RX7 67 2 MX7_isBend := ⟨⟨aw_pl 322 (by decide +kernel) rfl, siX7_isBend⟩, okX7_isBend⟩
theorem lkX7_71 : aw_LV RX7 71 1 2 MX1_bendOf := ⟨⟨aw_pl 328 (by decide +kernel) rfl, viX1_bendOf⟩, okX1_bendOf, by decide +kernel⟩
theorem lkX7_75 : aw_LV RX7 75 1 3 MX1_putBend := ⟨⟨aw_pl 332 (by decide +kernel) rfl, viX1_putBend⟩, okX1_putBend, by decide +kernel⟩
theorem okX7_isWithin : aw_ok MX7_isWithin 2 := ⟨aw_pl 327 (by decide +kernel) rfl, aw_pl 54 (by decide +kernel) rfl, ⟨by decide +kernel, by decide +kernel⟩, by decide +kernel, by decide⟩
theorem siX7_isWithin : Cond.static (aw_y MX7_isWithin) ∈ aw_tbl := aw_pl 326 (by decide +kernel) rfl
theorem lkX7_79 : aw_LS RX7 79 2 MX7_isWithin := ⟨⟨aw_pl 325 (by decide +kernel) rfl, siX7_isWithin⟩, okX7_isWithin⟩
theorem okX7_isKind : aw_ok MX7_isKind 1 := ⟨aw_pl 347 (by decide +kernel) rfl, aw_pl 54 (by decide +kernel) rfl, ⟨by decide +kernel, by decide +kernel⟩, by decide +kernel, by decide⟩
theorem siX7_isKind : Cond.static (aw_y MX7_isKind) ∈ aw_tbl := aw_pl 346 (by decide +kernel) rfl
theorem lkX7_90 : aw_LS RX7 90 1 MX7_isKind := ⟨⟨aw_pl 345 (by decide +kernel) rfl, siX7_isKind⟩, okX7_isKind⟩
theorem okX1_addLine : aw_ok MX1_addLine 3 := ⟨aw_pl 351 (by decide +kernel) rfl, aw_pl 55 (by decide +kernel) rfl, ⟨by decide +kernel, by decide +kernel⟩, by decide +kernel, by decide⟩
theorem viX1_addLine : Cond.instanceMethod (aw_y MX1_addLine) ∈ aw_tbl ∧ Cond.selects (aw_y MX1_addLine).cls (aw_y MX1_addLine) (aw_y MX1_addLine) ∈ aw_tbl := ⟨aw_pl 349 (by decide +kernel) rfl, aw_pl 350 (by decide +kernel) rfl⟩
theorem lkX7_96 : aw_LV RX7 96 1 3 MX1_addLine := ⟨⟨aw_pl 348 (by decide +kernel) rfl, viX1_addLine⟩, okX1_addLine, by decide +kernel⟩
theorem okX7_isLine : aw_ok MX7_isLine 1 := ⟨aw_pl 359 (by decide +kernel) rfl, aw_pl 54 (by decide +kernel) rfl, ⟨by decide +kernel, by decide +kernel⟩, by decide +kernel, by decide⟩
theorem viX7_isLine : Cond.instanceMethod (aw_y MX7_isLine) ∈ aw_tbl ∧ Cond.selects (aw_y MX7_isLine).cls (aw_y MX7_isLine) (aw_y MX7_isLine) ∈ aw_tbl := ⟨aw_pl 358 (by decide +kernel) rfl, aw_pl 1 (by decide +kernel) rfl⟩
theorem lkX7_100 : aw_LV RX7 100 6 1 MX7_isLine := ⟨⟨aw_pl 356 (by decide +kernel) rfl, viX7_isLine⟩, okX7_isLine, by decide +kernel⟩
theorem okX7_isChange : aw_ok MX7_isChange 2 := ⟨aw_pl 366 (by decide +kernel) rfl, aw_pl 54 (by decide +kernel) rfl, ⟨by decide +kernel, by decide +kernel⟩, by decide +kernel, by decide⟩
theorem siX7_isChange : Cond.static (aw_y MX7_isChange) ∈ aw_tbl := aw_pl 365 (by decide +kernel) rfl
theorem lkX7_106 : aw_LS RX7 106 2 MX7_isChange := ⟨⟨aw_pl 364 (by decide +kernel) rfl, siX7_isChange⟩, okX7_isChange⟩
theorem okX1_removeLine : aw_ok MX1_removeLine 1 := ⟨aw_pl 374 (by decide +kernel) rfl, aw_pl 55 (by decide +kernel) rfl, ⟨by decide +kernel, by decide +kernel⟩, by decide +kernel, by decide⟩
theorem viX1_removeLine : Cond.instanceMethod (aw_y MX1_removeLine) ∈ aw_tbl ∧ Cond.selects (aw_y MX1_removeLine).cls (aw_y MX1_removeLine) (aw_y MX1_removeLine) ∈ aw_tbl := ⟨aw_pl 372 (by decide +kernel) rfl, aw_pl 373 (by decide +kernel) rfl⟩
theorem lkX7_118 : aw_LV RX7 118 1 1 MX1_removeLine := ⟨⟨aw_pl 371 (by decide +kernel) rfl, viX1_removeLine⟩, okX1_removeLine, by decide +kernel⟩
theorem lkX7_121 : aw_LV RX7 121 1 2 MX1_boundOf := ⟨⟨aw_pl 382 (by decide +kernel) rfl, viX1_boundOf⟩, okX1_boundOf, by decide +kernel⟩
theorem lkX7_124 : aw_LV RX7 124 1 2 MX1_rowOf := ⟨⟨aw_pl 386 (by decide +kernel) rfl, viX1_rowOf⟩, okX1_rowOf, by decide +kernel⟩
theorem lkX7_127 : aw_LV RX7 127 1 1 MX1_determinant := ⟨⟨aw_pl 394 (by decide +kernel) rfl, viX1_determinant⟩, okX1_determinant, by decide +kernel⟩
theorem okX1_hasLeast : aw_ok MX1_hasLeast 0 := ⟨aw_pl 406 (by decide +kernel) rfl, aw_pl 55 (by decide +kernel) rfl, ⟨by decide +kernel, by decide +kernel⟩, by decide +kernel, by decide⟩
theorem viX1_hasLeast : Cond.instanceMethod (aw_y MX1_hasLeast) ∈ aw_tbl ∧ Cond.selects (aw_y MX1_hasLeast).cls (aw_y MX1_hasLeast) (aw_y MX1_hasLeast) ∈ aw_tbl := ⟨aw_pl 404 (by decide +kernel) rfl, aw_pl 405 (by decide +kernel) rfl⟩
theorem lkX7_131 : aw_LV RX7 131 1 0 MX1_hasLeast := ⟨⟨aw_pl 403 (by decide +kernel) rfl, viX1_hasLeast⟩, okX1_hasLeast, by decide +kernel⟩
theorem okX7_isSet : aw_ok MX7_isSet 1 := ⟨aw_pl 415 (by decide +kernel) rfl, aw_pl 54 (by decide +kernel) rfl, ⟨by decide +kernel, by decide +kernel⟩, by decide +kernel, by decide⟩
theorem viX7_isSet : Cond.instanceMethod (aw_y MX7_isSet) ∈ aw_tbl ∧ Cond.selects (aw_y MX7_isSet).cls (aw_y MX7_isSet) (aw_y MX7_isSet) ∈ aw_tbl := ⟨aw_pl 414 (by decide +kernel) rfl, aw_pl 2 (by decide +kernel) rfl⟩
theorem lkX7_135 : aw_LV RX7 135 6 1 MX7_isSet := ⟨⟨aw_pl 412 (by decide +kernel) rfl, viX7_isSet⟩, okX7_isSet, by decide +kernel⟩
theorem okX7_find : aw_ok MX7_find 2 := ⟨aw_pl 423 (by decide +kernel) rfl, aw_pl 54 (by decide +kernel) rfl, ⟨by decide +kernel, by decide +kernel⟩, by decide +kernel, by decide⟩
theorem viX7_find : Cond.instanceMethod (aw_y MX7_find) ∈ aw_tbl ∧ Cond.selects (aw_y MX7_find).cls (aw_y MX7_find) (aw_y MX7_find) ∈ aw_tbl := ⟨aw_pl 422 (by decide +kernel) rfl, aw_pl 3 (by decide +kernel) rfl⟩
theorem lkX7_138 : aw_LV RX7 138 6 2 MX7_find := ⟨⟨aw_pl 420 (by decide +kernel) rfl, viX7_find⟩, okX7_find, by decide +kernel⟩
theorem okX7_isPart : aw_ok MX7_isPart 1 := ⟨aw_pl 501 (by decide +kernel) rfl, aw_pl 54 (by decide +kernel) rfl, ⟨by decide +kernel, by decide +kernel⟩, by decide +kernel, by decide⟩
theorem siX7_isPart : Cond.static (aw_y MX7_isPart) ∈ aw_tbl := aw_pl 500 (by decide +kernel) rfl
theorem lkX7_142 : aw_LS RX7 142 1 MX7_isPart := ⟨⟨aw_pl 499 (by decide +kernel) rfl, siX7_isPart⟩, okX7_isPart⟩
theorem okX3_told : aw_ok MX3_told 3 := ⟨aw_pl 505 (by decide +kernel) rfl, aw_pl 65 (by decide +kernel) rfl, ⟨by decide +kernel, by decide +kernel⟩, by decide +kernel, by decide⟩
theorem siX3_told : Cond.static (aw_y MX3_told) ∈ aw_tbl := aw_pl 504 (by decide +kernel) rfl
theorem lkX7_161 : aw_LS RX7 161 3 MX3_told := ⟨⟨aw_pl 503 (by decide +kernel) rfl, siX3_told⟩, okX3_told⟩
theorem okX6_twiceWorth : aw_ok MX6_twiceWorth 0 := ⟨aw_pl 519 (by decide +kernel) rfl, aw_pl 56 (by decide +kernel) rfl, ⟨by decide +kernel, by decide +kernel⟩, by decide +kernel, by decide⟩
theorem viX6_twiceWorth : Cond.instanceMethod (aw_y MX6_twiceWorth) ∈ aw_tbl ∧ Cond.selects (aw_y MX6_twiceWorth).cls (aw_y MX6_twiceWorth) (aw_y MX6_twiceWorth) ∈ aw_tbl := ⟨aw_pl 517 (by decide +kernel) rfl, aw_pl 518 (by decide +kernel) rfl⟩
theorem lkX7_167 : aw_LV RX7 167 5 0 MX6_twiceWorth := ⟨⟨aw_pl 516 (by decide +kernel) rfl, viX6_twiceWorth⟩, okX6_twiceWorth, by decide +kernel⟩
theorem okX7_isOf : aw_ok MX7_isOf 2 := ⟨aw_pl 527 (by decide +kernel) rfl, aw_pl 54 (by decide +kernel) rfl, ⟨by decide +kernel, by decide +kernel⟩, by decide +kernel, by decide⟩
theorem siX7_isOf : Cond.static (aw_y MX7_isOf) ∈ aw_tbl := aw_pl 526 (by decide +kernel) rfl
theorem lkX7_173 : aw_LS RX7 173 2 MX7_isOf := ⟨⟨aw_pl 525 (by decide +kernel) rfl, siX7_isOf⟩, okX7_isOf⟩
theorem lkX7_179 : aw_LV RX7 179 5 1 MX6_slackOf := ⟨⟨aw_pl 532 (by decide +kernel) rfl, viX6_slackOf⟩, okX6_slackOf, by decide +kernel⟩
theorem lkX7_183 : aw_LV RX7 183 5 0 MX6_heldLines := ⟨⟨aw_pl 537 (by decide +kernel) rfl, viX6_heldLines⟩, okX6_heldLines, by decide +kernel⟩
theorem okX6_tightLines : aw_ok MX6_tightLines 0 := ⟨aw_pl 548 (by decide +kernel) rfl, aw_pl 56 (by decide +kernel) rfl, ⟨by decide +kernel, by decide +kernel⟩, by decide +kernel, by decide⟩
theorem viX6_tightLines : Cond.instanceMethod (aw_y MX6_tightLines) ∈ aw_tbl ∧ Cond.selects (aw_y MX6_tightLines).cls (aw_y MX6_tightLines) (aw_y MX6_tightLines) ∈ aw_tbl := ⟨aw_pl 546 (by decide +kernel) rfl, aw_pl 547 (by decide +kernel) rfl⟩
theorem lkX7_187 : aw_LV RX7 187 5 0 MX6_tightLines := ⟨⟨aw_pl 545 (by decide +kernel) rfl, viX6_tightLines⟩, okX6_tightLines, by decide +kernel⟩
theorem okX6_goPath : aw_ok MX6_goPath 0 := ⟨aw_pl 556 (by decide +kernel) rfl, aw_pl 56 (by decide +kernel) rfl, ⟨by decide +kernel, by decide +kernel⟩, by decide +kernel, by decide⟩
theorem viX6_goPath : Cond.instanceMethod (aw_y MX6_goPath) ∈ aw_tbl ∧ Cond.selects (aw_y MX6_goPath).cls (aw_y MX6_goPath) (aw_y MX6_goPath) ∈ aw_tbl := ⟨aw_pl 554 (by decide +kernel) rfl, aw_pl 555 (by decide +kernel) rfl⟩
theorem lkX7_190 : aw_LV RX7 190 5 0 MX6_goPath := ⟨⟨aw_pl 553 (by decide +kernel) rfl, viX6_goPath⟩, okX6_goPath, by decide +kernel⟩
theorem okX6_changesTo : aw_ok MX6_changesTo 1 := ⟨aw_pl 571 (by decide +kernel) rfl, aw_pl 56 (by decide +kernel) rfl, ⟨by decide +kernel, by decide +kernel⟩, by decide +kernel, by decide⟩
theorem viX6_changesTo : Cond.instanceMethod (aw_y MX6_changesTo) ∈ aw_tbl ∧ Cond.selects (aw_y MX6_changesTo).cls (aw_y MX6_changesTo) (aw_y MX6_changesTo) ∈ aw_tbl := ⟨aw_pl 569 (by decide +kernel) rfl, aw_pl 570 (by decide +kernel) rfl⟩
theorem lkX7_199 : aw_LV RX7 199 5 1 MX6_changesTo := ⟨⟨aw_pl 568 (by decide +kernel) rfl, viX6_changesTo⟩, okX6_changesTo, by decide +kernel⟩
theorem lkX7_202 : aw_LV RX7 202 1 0 MX1_allLines := ⟨⟨aw_pl 416 (by decide +kernel) rfl, viX1_allLines⟩, okX1_allLines, by decide +kernel⟩
theorem okX6_findReach : aw_ok MX6_findReach 0 := ⟨aw_pl 584 (by decide +kernel) rfl, aw_pl 56 (by decide +kernel) rfl, ⟨by decide +kernel, by decide +kernel⟩, by decide +kernel, by decide⟩
theorem viX6_findReach : Cond.instanceMethod (aw_y MX6_findReach) ∈ aw_tbl ∧ Cond.selects (aw_y MX6_findReach).cls (aw_y MX6_findReach) (aw_y MX6_findReach) ∈ aw_tbl := ⟨aw_pl 582 (by decide +kernel) rfl, aw_pl 583 (by decide +kernel) rfl⟩
theorem lkX7_205 : aw_LV RX7 205 5 0 MX6_findReach := ⟨⟨aw_pl 581 (by decide +kernel) rfl, viX6_findReach⟩, okX6_findReach, by decide +kernel⟩
theorem okX7_findNear : aw_ok MX7_findNear 4 := ⟨aw_pl 604 (by decide +kernel) rfl, aw_pl 54 (by decide +kernel) rfl, ⟨by decide +kernel, by decide +kernel⟩, by decide +kernel, by decide⟩
theorem viX7_findNear : Cond.instanceMethod (aw_y MX7_findNear) ∈ aw_tbl ∧ Cond.selects (aw_y MX7_findNear).cls (aw_y MX7_findNear) (aw_y MX7_findNear) ∈ aw_tbl := ⟨aw_pl 603 (by decide +kernel) rfl, aw_pl 14 (by decide +kernel) rfl⟩
theorem lkX7_216 : aw_LV RX7 216 6 4 MX7_findNear := ⟨⟨aw_pl 601 (by decide +kernel) rfl, viX7_findNear⟩, okX7_findNear, by decide +kernel⟩
theorem okX1_squareOfPushes : aw_ok MX1_squareOfPushes 0 := ⟨aw_pl 617 (by decide +kernel) rfl, aw_pl 55 (by decide +kernel) rfl, ⟨by decide +kernel, by decide +kernel⟩, by decide +kernel, by decide⟩
theorem viX1_squareOfPushes : Cond.instanceMethod (aw_y MX1_squareOfPushes) ∈ aw_tbl ∧ Cond.selects (aw_y MX1_squareOfPushes).cls (aw_y MX1_squareOfPushes) (aw_y MX1_squareOfPushes) ∈ aw_tbl := ⟨aw_pl 615 (by decide +kernel) rfl, aw_pl 616 (by decide +kernel) rfl⟩
theorem lkX7_220 : aw_LV RX7 220 1 0 MX1_squareOfPushes := ⟨⟨aw_pl 614 (by decide +kernel) rfl, viX1_squareOfPushes⟩, okX1_squareOfPushes, by decide +kernel⟩
theorem okX7_isSheet : aw_ok MX7_isSheet 1 := ⟨aw_pl 624 (by decide +kernel) rfl, aw_pl 54 (by decide +kernel) rfl, ⟨by decide +kernel, by decide +kernel⟩, by decide +kernel, by decide⟩
theorem siX7_isSheet : Cond.static (aw_y MX7_isSheet) ∈ aw_tbl := aw_pl 623 (by decide +kernel) rfl
theorem lkX7_223 : aw_LS RX7 223 1 MX7_isSheet := ⟨⟨aw_pl 622 (by decide +kernel) rfl, siX7_isSheet⟩, okX7_isSheet⟩
theorem okX2_tell : aw_ok MX2_tell 3 := ⟨aw_pl 628 (by decide +kernel) rfl, aw_pl 60 (by decide +kernel) rfl, ⟨by decide +kernel, by decide +kernel⟩, by decide +kernel, by decide⟩
theorem viX2_tell : Cond.instanceMethod (aw_y MX2_tell) ∈ aw_tbl ∧ Cond.selects (aw_y MX2_tell).cls (aw_y MX2_tell) (aw_y MX2_tell) ∈ aw_tbl := ⟨aw_pl 626 (by decide +kernel) rfl, aw_pl 627 (by decide +kernel) rfl⟩
theorem lkX7_226 : aw_LV RX7 226 2 3 MX2_tell := ⟨⟨aw_pl 625 (by decide +kernel) rfl, viX2_tell⟩, okX2_tell, by decide +kernel⟩
theorem lkX7_230 : aw_LV RX7 230 2 0 MX2_length := ⟨⟨aw_pl 647 (by decide +kernel) rfl, viX2_length⟩, okX2_length, by decide +kernel⟩
theorem okX5_isAllWithin : aw_ok MX5_isAllWithin 2 := ⟨aw_pl 656 (by decide +kernel) rfl, aw_pl 58 (by decide +kernel) rfl, ⟨by decide +kernel, by decide +kernel⟩, by decide +kernel, by decide⟩
theorem viX5_isAllWithin : Cond.instanceMethod (aw_y MX5_isAllWithin) ∈ aw_tbl ∧ Cond.selects (aw_y MX5_isAllWithin).cls (aw_y MX5_isAllWithin) (aw_y MX5_isAllWithin) ∈ aw_tbl := ⟨aw_pl 654 (by decide +kernel) rfl, aw_pl 655 (by decide +kernel) rfl⟩
theorem lkX7_241 : aw_LV RX7 241 4 2 MX5_isAllWithin := ⟨⟨aw_pl 653 (by decide +kernel) rfl, viX5_isAllWithin⟩, okX5_isAllWithin, by decide +kernel⟩
theorem okX2_take : aw_ok MX2_take 2 := ⟨aw_pl 664 (by decide +kernel) rfl, aw_pl 60 (by decide +kernel) rfl, ⟨by decide +kernel, by decide +kernel⟩, by decide +kernel, by decide⟩
theorem viX2_take : Cond.instanceMethod (aw_y MX2_take) ∈ aw_tbl ∧ Cond.selects (aw_y MX2_take).cls (aw_y MX2_take) (aw_y MX2_take) ∈ aw_tbl := ⟨aw_pl 662 (by decide +kernel) rfl, aw_pl 663 (by decide +kernel) rfl⟩
theorem lkX7_245 : aw_LV RX7 245 2 2 MX2_take := ⟨⟨aw_pl 661 (by decide +kernel) rfl, viX2_take⟩, okX2_take, by decide +kernel⟩
theorem okX2_firstWrong : aw_ok MX2_firstWrong 0 := ⟨aw_pl 669 (by decide +kernel) rfl, aw_pl 60 (by decide +kernel) rfl, ⟨by decide +kernel, by decide +kernel⟩, by decide +kernel, by decide⟩
theorem viX2_firstWrong : Cond.instanceMethod (aw_y MX2_firstWrong) ∈ aw_tbl ∧ Cond.selects (aw_y MX2_firstWrong).cls (aw_y MX2_firstWrong) (aw_y MX2_firstWrong) ∈ aw_tbl := ⟨aw_pl 667 (by decide +kernel) rfl, aw_pl 668 (by decide +kernel) rfl⟩
theorem lkX7_249 : aw_LV RX7 249 2 0 MX2_firstWrong := ⟨⟨aw_pl 666 (by decide +kernel) rfl, viX2_firstWrong⟩, okX2_firstWrong, by decide +kernel⟩
theorem okX0_write : aw_ok MX0_write 1 := ⟨aw_pl 703 (by decide +kernel) rfl, aw_pl 61 (by decide +kernel) rfl, ⟨by decide +kernel, by decide +kernel⟩, by decide +kernel, by decide⟩
theorem viX0_write : Cond.instanceMethod (aw_y MX0_write) ∈ aw_tbl ∧ Cond.selects (aw_y MX0_write).cls (aw_y MX0_write) (aw_y MX0_write) ∈ aw_tbl := ⟨aw_pl 701 (by decide +kernel) rfl, aw_pl 702 (by decide +kernel) rfl⟩
theorem lkX7_252 : aw_LV RX7 252 0 1 MX0_write := ⟨⟨aw_pl 700 (by decide +kernel) rfl, viX0_write⟩, okX0_write, by decide +kernel⟩
theorem okX0_offer : aw_ok MX0_offer 2 := ⟨aw_pl 708 (by decide +kernel) rfl, aw_pl 61 (by decide +kernel) rfl, ⟨by decide +kernel, by decide +kernel⟩, by decide +kernel, by decide⟩
theorem viX0_offer : Cond.instanceMethod (aw_y MX0_offer) ∈ aw_tbl ∧ Cond.selects (aw_y MX0_offer).cls (aw_y MX0_offer) (aw_y MX0_offer) ∈ aw_tbl := ⟨aw_pl 706 (by decide +kernel) rfl, aw_pl 707 (by decide +kernel) rfl⟩
theorem lkX7_255 : aw_LV RX7 255 0 2 MX0_offer := ⟨⟨aw_pl 705 (by decide +kernel) rfl, viX0_offer⟩, okX0_offer, by decide +kernel⟩
theorem okX0_lastBut : aw_ok MX0_lastBut 1 := ⟨aw_pl 725 (by decide +kernel) rfl, aw_pl 61 (by decide +kernel) rfl, ⟨by decide +kernel, by decide +kernel⟩, by decide +kernel, by decide⟩
theorem viX0_lastBut : Cond.instanceMethod (aw_y MX0_lastBut) ∈ aw_tbl ∧ Cond.selects (aw_y MX0_lastBut).cls (aw_y MX0_lastBut) (aw_y MX0_lastBut) ∈ aw_tbl := ⟨aw_pl 723 (by decide +kernel) rfl, aw_pl 724 (by decide +kernel) rfl⟩
theorem lkX7_265 : aw_LV RX7 265 0 1 MX0_lastBut := ⟨⟨aw_pl 722 (by decide +kernel) rfl, viX0_lastBut⟩, okX0_lastBut, by decide +kernel⟩
theorem lkX7_276 : aw_LV RX7 276 4 3 MX5_begin := ⟨⟨aw_pl 735 (by decide +kernel) rfl, viX5_begin⟩, okX5_begin, by decide +kernel⟩
theorem okX7_refusedCell : aw_ok MX7_refusedCell 2 := ⟨aw_pl 743 (by decide +kernel) rfl, aw_pl 54 (by decide +kernel) rfl, ⟨by decide +kernel, by decide +kernel⟩, by decide +kernel, by decide⟩
theorem viX7_refusedCell : Cond.instanceMethod (aw_y MX7_refusedCell) ∈ aw_tbl ∧ Cond.selects (aw_y MX7_refusedCell).cls (aw_y MX7_refusedCell) (aw_y MX7_refusedCell) ∈ aw_tbl := ⟨aw_pl 742 (by decide +kernel) rfl, aw_pl 21 (by decide +kernel) rfl⟩
theorem lkX7_278 : aw_LV RX7 278 6 2 MX7_refusedCell := ⟨⟨aw_pl 740 (by decide +kernel) rfl, viX7_refusedCell⟩, okX7_refusedCell, by decide +kernel⟩
theorem lkX7_281 : aw_LV RX7 281 4 3 MX5_put := ⟨⟨aw_pl 744 (by decide +kernel) rfl, viX5_put⟩, okX5_put, by decide +kernel⟩
theorem lkX7_285 : aw_LV RX7 285 4 2 MX5_at := ⟨⟨aw_pl 749 (by decide +kernel) rfl, viX5_at⟩, okX5_at, by decide +kernel⟩
theorem okX5_hasRoom : aw_ok MX5_hasRoom 3 := ⟨aw_pl 757 (by decide +kernel) rfl, aw_pl 58 (by decide +kernel) rfl, ⟨by decide +kernel, by decide +kernel⟩, by decide +kernel, by decide⟩
theorem viX5_hasRoom : Cond.instanceMethod (aw_y MX5_hasRoom) ∈ aw_tbl ∧ Cond.selects (aw_y MX5_hasRoom).cls (aw_y MX5_hasRoom) (aw_y MX5_hasRoom) ∈ aw_tbl := ⟨aw_pl 755 (by decide +kernel) rfl, aw_pl 756 (by decide +kernel) rfl⟩
theorem lkX7_289 : aw_LV RX7 289 4 3 MX5_hasRoom := ⟨⟨aw_pl 754 (by decide +kernel) rfl, viX5_hasRoom⟩, okX5_hasRoom, by decide +kernel⟩
theorem okX5_move : aw_ok MX5_move 5 := ⟨aw_pl 761 (by decide +kernel) rfl, aw_pl 58 (by decide +kernel) rfl, ⟨by decide +kernel, by decide +kernel⟩, by decide +kernel, by decide⟩
theorem viX5_move : Cond.instanceMethod (aw_y MX5_move) ∈ aw_tbl ∧ Cond.selects (aw_y MX5_move).cls (aw_y MX5_move) (aw_y MX5_move) ∈ aw_tbl := ⟨aw_pl 759 (by decide +kernel) rfl, aw_pl 760 (by decide +kernel) rfl⟩
theorem lkX7_293 : aw_LV RX7 293 4 5 MX5_move := ⟨⟨aw_pl 758 (by decide +kernel) rfl, viX5_move⟩, okX5_move, by decide +kernel⟩
theorem okX1_become : aw_ok MX1_become 1 := ⟨aw_pl 608 (by decide +kernel) rfl, aw_pl 55 (by decide +kernel) rfl, ⟨by decide +kernel, by decide +kernel⟩, by decide +kernel, by decide⟩
theorem viX1_become : Cond.instanceMethod (aw_y MX1_become) ∈ aw_tbl ∧ Cond.selects (aw_y MX1_become).cls (aw_y MX1_become) (aw_y MX1_become) ∈ aw_tbl := ⟨aw_pl 606 (by decide +kernel) rfl, aw_pl 607 (by decide +kernel) rfl⟩
theorem lkX7_297 : aw_LV RX7 297 1 1 MX1_become := ⟨⟨aw_pl 605 (by decide +kernel) rfl, viX1_become⟩, okX1_become, by decide +kernel⟩
theorem okX1_linesOn : aw_ok MX1_linesOn 0 := ⟨aw_pl 778 (by decide +kernel) rfl, aw_pl 55 (by decide +kernel) rfl, ⟨by decide +kernel, by decide +kernel⟩, by decide +kernel, by decide⟩
theorem viX1_linesOn : Cond.instanceMethod (aw_y MX1_linesOn) ∈ aw_tbl ∧ Cond.selects (aw_y MX1_linesOn).cls (aw_y MX1_linesOn) (aw_y MX1_linesOn) ∈ aw_tbl := ⟨aw_pl 776 (by decide +kernel) rfl, aw_pl 777 (by decide +kernel) rfl⟩
theorem lkX7_304 : aw_LV RX7 304 1 0 MX1_linesOn := ⟨⟨aw_pl 775 (by decide +kernel) rfl, viX1_linesOn⟩, okX1_linesOn, by decide +kernel⟩
theorem lkX7_307 : aw_LV RX7 307 5 2 MX6_find := ⟨⟨aw_pl 424 (by decide +kernel) rfl, viX6_find⟩, okX6_find, by decide +kernel⟩
theorem lkX7_309 : aw_LV RX7 309 1 0 MX1_makeRound := ⟨⟨aw_pl 609 (by decide +kernel) rfl, viX1_makeRound⟩, okX1_makeRound, by decide +kernel⟩
theorem okX8_divisor : aw_ok MX8_divisor 2 := ⟨aw_pl 1045 (by decide +kernel) rfl, aw_pl 62 (by decide +kernel) rfl, ⟨by decide +kernel, by decide +kernel⟩, by decide +kernel, by decide⟩
theorem siX8_divisor : Cond.static (aw_y MX8_divisor) ∈ aw_tbl := aw_pl 1044 (by decide +kernel) rfl
theorem lkX8_71 : aw_LS RX8 71 2 MX8_divisor := ⟨⟨aw_pl 1043 (by decide +kernel) rfl, siX8_divisor⟩, okX8_divisor⟩
theorem lkX8_75 : aw_LS RX8 75 2 MJ9_floorDiv_f86c9 := ⟨⟨aw_pl 1113 (by decide +kernel) rfl, siJ9_floorDiv_f86c9⟩, okJ9_floorDiv_f86c9⟩
theorem okX8_isLess : aw_ok MX8_isLess 4 := ⟨aw_pl 1112 (by decide +kernel) rfl, aw_pl 62 (by decide +kernel) rfl, ⟨by decide +kernel, by decide +kernel⟩, by decide +kernel, by decide⟩
theorem siX8_isLess : Cond.static (aw_y MX8_isLess) ∈ aw_tbl := aw_pl 1111 (by decide +kernel) rfl
theorem lkX8_80 : aw_LS RX8 80 4 MX8_isLess := ⟨⟨aw_pl 1110 (by decide +kernel) rfl, siX8_isLess⟩, okX8_isLess⟩
theorem okX8_in : aw_ok MX8_in 3 := ⟨aw_pl 892 (by decide +kernel) rfl, aw_pl 62 (by decide +kernel) rfl, ⟨by decide +kernel, by decide +kernel⟩, by decide +kernel, by decide⟩
theorem siX8_in : Cond.static (aw_y MX8_in) ∈ aw_tbl := aw_pl 891 (by decide +kernel) rfl
theorem lkX8_84 : aw_LS RX8 84 3 MX8_in := ⟨⟨aw_pl 890 (by decide +kernel) rfl, siX8_in⟩, okX8_in⟩
theorem okX8_isVariable : aw_ok MX8_isVariable 1 := ⟨aw_pl 900 (by decide +kernel) rfl, aw_pl 62 (by decide +kernel) rfl, ⟨by decide +kernel, by decide +kernel⟩, by decide +kernel, by decide⟩
theorem viX8_isVariable : Cond.instanceMethod (aw_y MX8_isVariable) ∈ aw_tbl ∧ Cond.selects (aw_y MX8_isVariable).cls (aw_y MX8_isVariable) (aw_y MX8_isVariable) ∈ aw_tbl := ⟨aw_pl 899 (by decide +kernel) rfl, aw_pl 22 (by decide +kernel) rfl⟩
theorem lkX8_96 : aw_LV RX8 96 7 1 MX8_isVariable := ⟨⟨aw_pl 897 (by decide +kernel) rfl, viX8_isVariable⟩, okX8_isVariable, by decide +kernel⟩
theorem okX8_isLine : aw_ok MX8_isLine 1 := ⟨aw_pl 927 (by decide +kernel) rfl, aw_pl 62 (by decide +kernel) rfl, ⟨by decide +kernel, by decide +kernel⟩, by decide +kernel, by decide⟩
theorem viX8_isLine : Cond.instanceMethod (aw_y MX8_isLine) ∈ aw_tbl ∧ Cond.selects (aw_y MX8_isLine).cls (aw_y MX8_isLine) (aw_y MX8_isLine) ∈ aw_tbl := ⟨aw_pl 926 (by decide +kernel) rfl, aw_pl 23 (by decide +kernel) rfl⟩
theorem lkX8_114 : aw_LV RX8 114 7 1 MX8_isLine := ⟨⟨aw_pl 924 (by decide +kernel) rfl, viX8_isLine⟩, okX8_isLine, by decide +kernel⟩
theorem okX8_becomes : aw_ok MX8_becomes 2 := ⟨aw_pl 932 (by decide +kernel) rfl, aw_pl 62 (by decide +kernel) rfl, ⟨by decide +kernel, by decide +kernel⟩, by decide +kernel, by decide⟩
theorem viX8_becomes : Cond.instanceMethod (aw_y MX8_becomes) ∈ aw_tbl ∧ Cond.selects (aw_y MX8_becomes).cls (aw_y MX8_becomes) (aw_y MX8_becomes) ∈ aw_tbl := ⟨aw_pl 931 (by decide +kernel) rfl, aw_pl 24 (by decide +kernel) rfl⟩
theorem lkX8_119 : aw_LV RX8 119 7 2 MX8_becomes := ⟨⟨aw_pl 929 (by decide +kernel) rfl, viX8_becomes⟩, okX8_becomes, by decide +kernel⟩
theorem okX8_bound : aw_ok MX8_bound 1 := ⟨aw_pl 949 (by decide +kernel) rfl, aw_pl 62 (by decide +kernel) rfl, ⟨by decide +kernel, by decide +kernel⟩, by decide +kernel, by decide⟩
theorem viX8_bound : Cond.instanceMethod (aw_y MX8_bound) ∈ aw_tbl ∧ Cond.selects (aw_y MX8_bound).cls (aw_y MX8_bound) (aw_y MX8_bound) ∈ aw_tbl := ⟨aw_pl 948 (by decide +kernel) rfl, aw_pl 25 (by decide +kernel) rfl⟩
theorem lkX8_125 : aw_LV RX8 125 7 1 MX8_bound := ⟨⟨aw_pl 946 (by decide +kernel) rfl, viX8_bound⟩, okX8_bound, by decide +kernel⟩
theorem okX8_row : aw_ok MX8_row 2 := ⟨aw_pl 953 (by decide +kernel) rfl, aw_pl 62 (by decide +kernel) rfl, ⟨by decide +kernel, by decide +kernel⟩, by decide +kernel, by decide⟩
theorem viX8_row : Cond.instanceMethod (aw_y MX8_row) ∈ aw_tbl ∧ Cond.selects (aw_y MX8_row).cls (aw_y MX8_row) (aw_y MX8_row) ∈ aw_tbl := ⟨aw_pl 952 (by decide +kernel) rfl, aw_pl 26 (by decide +kernel) rfl⟩
theorem lkX8_129 : aw_LV RX8 129 7 2 MX8_row := ⟨⟨aw_pl 950 (by decide +kernel) rfl, viX8_row⟩, okX8_row, by decide +kernel⟩
theorem okX8_has : aw_ok MX8_has 2 := ⟨aw_pl 968 (by decide +kernel) rfl, aw_pl 62 (by decide +kernel) rfl, ⟨by decide +kernel, by decide +kernel⟩, by decide +kernel, by decide⟩
theorem siX8_has : Cond.static (aw_y MX8_has) ∈ aw_tbl := aw_pl 967 (by decide +kernel) rfl
theorem lkX8_135 : aw_LS RX8 135 2 MX8_has := ⟨⟨aw_pl 966 (by decide +kernel) rfl, siX8_has⟩, okX8_has⟩
theorem okX8_determinant : aw_ok MX8_determinant 0 := ⟨aw_pl 965 (by decide +kernel) rfl, aw_pl 62 (by decide +kernel) rfl, ⟨by decide +kernel, by decide +kernel⟩, by decide +kernel, by decide⟩
theorem viX8_determinant : Cond.instanceMethod (aw_y MX8_determinant) ∈ aw_tbl ∧ Cond.selects (aw_y MX8_determinant).cls (aw_y MX8_determinant) (aw_y MX8_determinant) ∈ aw_tbl := ⟨aw_pl 964 (by decide +kernel) rfl, aw_pl 28 (by decide +kernel) rfl⟩
theorem lkX8_139 : aw_LV RX8 139 7 0 MX8_determinant := ⟨⟨aw_pl 962 (by decide +kernel) rfl, viX8_determinant⟩, okX8_determinant, by decide +kernel⟩
theorem okX8_minorOf : aw_ok MX8_minorOf 1 := ⟨aw_pl 961 (by decide +kernel) rfl, aw_pl 62 (by decide +kernel) rfl, ⟨by decide +kernel, by decide +kernel⟩, by decide +kernel, by decide⟩
theorem viX8_minorOf : Cond.instanceMethod (aw_y MX8_minorOf) ∈ aw_tbl ∧ Cond.selects (aw_y MX8_minorOf).cls (aw_y MX8_minorOf) (aw_y MX8_minorOf) ∈ aw_tbl := ⟨aw_pl 960 (by decide +kernel) rfl, aw_pl 27 (by decide +kernel) rfl⟩
theorem lkX8_143 : aw_LV RX8 143 7 1 MX8_minorOf := ⟨⟨aw_pl 958 (by decide +kernel) rfl, viX8_minorOf⟩, okX8_minorOf, by decide +kernel⟩
theorem okX8_proper : aw_ok MX8_proper 0 := ⟨aw_pl 976 (by decide +kernel) rfl, aw_pl 62 (by decide +kernel) rfl, ⟨by decide +kernel, by decide +kernel⟩, by decide +kernel, by decide⟩
theorem viX8_proper : Cond.instanceMethod (aw_y MX8_proper) ∈ aw_tbl ∧ Cond.selects (aw_y MX8_proper).cls (aw_y MX8_proper) (aw_y MX8_proper) ∈ aw_tbl := ⟨aw_pl 975 (by decide +kernel) rfl, aw_pl 29 (by decide +kernel) rfl⟩
theorem lkX8_146 : aw_LV RX8 146 7 0 MX8_proper := ⟨⟨aw_pl 973 (by decide +kernel) rfl, viX8_proper⟩, okX8_proper, by decide +kernel⟩
theorem okX8_instead : aw_ok MX8_instead 1 := ⟨aw_pl 1008 (by decide +kernel) rfl, aw_pl 62 (by decide +kernel) rfl, ⟨by decide +kernel, by decide +kernel⟩, by decide +kernel, by decide⟩
theorem viX8_instead : Cond.instanceMethod (aw_y MX8_instead) ∈ aw_tbl ∧ Cond.selects (aw_y MX8_instead).cls (aw_y MX8_instead) (aw_y MX8_instead) ∈ aw_tbl := ⟨aw_pl 1007 (by decide +kernel) rfl, aw_pl 36 (by decide +kernel) rfl⟩
theorem lkX8_150 : aw_LV RX8 150 7 1 MX8_instead := ⟨⟨aw_pl 1005 (by decide +kernel) rfl, viX8_instead⟩, okX8_instead, by decide +kernel⟩
theorem okX8_laysSome : aw_ok MX8_laysSome 1 := ⟨aw_pl 996 (by decide +kernel) rfl, aw_pl 62 (by decide +kernel) rfl, ⟨by decide +kernel, by decide +kernel⟩, by decide +kernel, by decide⟩
theorem viX8_laysSome : Cond.instanceMethod (aw_y MX8_laysSome) ∈ aw_tbl ∧ Cond.selects (aw_y MX8_laysSome).cls (aw_y MX8_laysSome) (aw_y MX8_laysSome) ∈ aw_tbl := ⟨aw_pl 995 (by decide +kernel) rfl, aw_pl 33 (by decide +kernel) rfl⟩
theorem lkX8_154 : aw_LV RX8 154 7 1 MX8_laysSome := ⟨⟨aw_pl 993 (by decide +kernel) rfl, viX8_laysSome⟩, okX8_laysSome, by decide +kernel⟩
theorem okX8_laysCells : aw_ok MX8_laysCells 1 := ⟨aw_pl 1000 (by decide +kernel) rfl, aw_pl 62 (by decide +kernel) rfl, ⟨by decide +kernel, by decide +kernel⟩, by decide +kernel, by decide⟩
theorem viX8_laysCells : Cond.instanceMethod (aw_y MX8_laysCells) ∈ aw_tbl ∧ Cond.selects (aw_y MX8_laysCells).cls (aw_y MX8_laysCells) (aw_y MX8_laysCells) ∈ aw_tbl := ⟨aw_pl 999 (by decide +kernel) rfl, aw_pl 34 (by decide +kernel) rfl⟩
theorem lkX8_157 : aw_LV RX8 157 7 1 MX8_laysCells := ⟨⟨aw_pl 997 (by decide +kernel) rfl, viX8_laysCells⟩, okX8_laysCells, by decide +kernel⟩
theorem okX8_tells : aw_ok MX8_tells 4 := ⟨aw_pl 1004 (by decide +kernel) rfl, aw_pl 62 (by decide +kernel) rfl, ⟨by decide +kernel, by decide +kernel⟩, by decide +kernel, by decide⟩
theorem viX8_tells : Cond.instanceMethod (aw_y MX8_tells) ∈ aw_tbl ∧ Cond.selects (aw_y MX8_tells).cls (aw_y MX8_tells) (aw_y MX8_tells) ∈ aw_tbl := ⟨aw_pl 1003 (by decide +kernel) rfl, aw_pl 35 (by decide +kernel) rfl⟩
theorem lkX8_165 : aw_LV RX8 165 7 4 MX8_tells := ⟨⟨aw_pl 1001 (by decide +kernel) rfl, viX8_tells⟩, okX8_tells, by decide +kernel⟩
theorem okX8_rise : aw_ok MX8_rise 1 := ⟨aw_pl 1105 (by decide +kernel) rfl, aw_pl 62 (by decide +kernel) rfl, ⟨by decide +kernel, by decide +kernel⟩, by decide +kernel, by decide⟩
theorem viX8_rise : Cond.instanceMethod (aw_y MX8_rise) ∈ aw_tbl ∧ Cond.selects (aw_y MX8_rise).cls (aw_y MX8_rise) (aw_y MX8_rise) ∈ aw_tbl := ⟨aw_pl 1104 (by decide +kernel) rfl, aw_pl 47 (by decide +kernel) rfl⟩
theorem lkX8_169 : aw_LV RX8 169 7 1 MX8_rise := ⟨⟨aw_pl 1102 (by decide +kernel) rfl, viX8_rise⟩, okX8_rise, by decide +kernel⟩
theorem okX8_slackOf : aw_ok MX8_slackOf 1 := ⟨aw_pl 1020 (by decide +kernel) rfl, aw_pl 62 (by decide +kernel) rfl, ⟨by decide +kernel, by decide +kernel⟩, by decide +kernel, by decide⟩
theorem viX8_slackOf : Cond.instanceMethod (aw_y MX8_slackOf) ∈ aw_tbl ∧ Cond.selects (aw_y MX8_slackOf).cls (aw_y MX8_slackOf) (aw_y MX8_slackOf) ∈ aw_tbl := ⟨aw_pl 1019 (by decide +kernel) rfl, aw_pl 39 (by decide +kernel) rfl⟩
theorem lkX8_172 : aw_LV RX8 172 7 1 MX8_slackOf := ⟨⟨aw_pl 1017 (by decide +kernel) rfl, viX8_slackOf⟩, okX8_slackOf, by decide +kernel⟩
theorem okX8_isOn : aw_ok MX8_isOn 1 := ⟨aw_pl 1024 (by decide +kernel) rfl, aw_pl 62 (by decide +kernel) rfl, ⟨by decide +kernel, by decide +kernel⟩, by decide +kernel, by decide⟩
theorem viX8_isOn : Cond.instanceMethod (aw_y MX8_isOn) ∈ aw_tbl ∧ Cond.selects (aw_y MX8_isOn).cls (aw_y MX8_isOn) (aw_y MX8_isOn) ∈ aw_tbl := ⟨aw_pl 1023 (by decide +kernel) rfl, aw_pl 40 (by decide +kernel) rfl⟩
theorem lkX8_175 : aw_LV RX8 175 7 1 MX8_isOn := ⟨⟨aw_pl 1021 (by decide +kernel) rfl, viX8_isOn⟩, okX8_isOn, by decide +kernel⟩
theorem okX8_holds : aw_ok MX8_holds 1 := ⟨aw_pl 1016 (by decide +kernel) rfl, aw_pl 62 (by decide +kernel) rfl, ⟨by decide +kernel, by decide +kernel⟩, by decide +kernel, by decide⟩
theorem viX8_holds : Cond.instanceMethod (aw_y MX8_holds) ∈ aw_tbl ∧ Cond.selects (aw_y MX8_holds).cls (aw_y MX8_holds) (aw_y MX8_holds) ∈ aw_tbl := ⟨aw_pl 1015 (by decide +kernel) rfl, aw_pl 38 (by decide +kernel) rfl⟩
theorem lkX8_178 : aw_LV RX8 178 7 1 MX8_holds := ⟨⟨aw_pl 1013 (by decide +kernel) rfl, viX8_holds⟩, okX8_holds, by decide +kernel⟩
theorem okX8_finds : aw_ok MX8_finds 1 := ⟨aw_pl 992 (by decide +kernel) rfl, aw_pl 62 (by decide +kernel) rfl, ⟨by decide +kernel, by decide +kernel⟩, by decide +kernel, by decide⟩
theorem viX8_finds : Cond.instanceMethod (aw_y MX8_finds) ∈ aw_tbl ∧ Cond.selects (aw_y MX8_finds).cls (aw_y MX8_finds) (aw_y MX8_finds) ∈ aw_tbl := ⟨aw_pl 991 (by decide +kernel) rfl, aw_pl 32 (by decide +kernel) rfl⟩
theorem lkX8_181 : aw_LV RX8 181 7 1 MX8_finds := ⟨⟨aw_pl 989 (by decide +kernel) rfl, viX8_finds⟩, okX8_finds, by decide +kernel⟩
theorem okX8_isRight : aw_ok MX8_isRight 1 := ⟨aw_pl 1012 (by decide +kernel) rfl, aw_pl 62 (by decide +kernel) rfl, ⟨by decide +kernel, by decide +kernel⟩, by decide +kernel, by decide⟩
theorem viX8_isRight : Cond.instanceMethod (aw_y MX8_isRight) ∈ aw_tbl ∧ Cond.selects (aw_y MX8_isRight).cls (aw_y MX8_isRight) (aw_y MX8_isRight) ∈ aw_tbl := ⟨aw_pl 1011 (by decide +kernel) rfl, aw_pl 37 (by decide +kernel) rfl⟩
theorem lkX8_184 : aw_LV RX8 184 7 1 MX8_isRight := ⟨⟨aw_pl 1009 (by decide +kernel) rfl, viX8_isRight⟩, okX8_isRight, by decide +kernel⟩
theorem okX8_isSet : aw_ok MX8_isSet 1 := ⟨aw_pl 984 (by decide +kernel) rfl, aw_pl 62 (by decide +kernel) rfl, ⟨by decide +kernel, by decide +kernel⟩, by decide +kernel, by decide⟩
theorem viX8_isSet : Cond.instanceMethod (aw_y MX8_isSet) ∈ aw_tbl ∧ Cond.selects (aw_y MX8_isSet).cls (aw_y MX8_isSet) (aw_y MX8_isSet) ∈ aw_tbl := ⟨aw_pl 983 (by decide +kernel) rfl, aw_pl 30 (by decide +kernel) rfl⟩
theorem lkX8_187 : aw_LV RX8 187 7 1 MX8_isSet := ⟨⟨aw_pl 981 (by decide +kernel) rfl, viX8_isSet⟩, okX8_isSet, by decide +kernel⟩
theorem okX8_works : aw_ok MX8_works 1 := ⟨aw_pl 988 (by decide +kernel) rfl, aw_pl 62 (by decide +kernel) rfl, ⟨by decide +kernel, by decide +kernel⟩, by decide +kernel, by decide⟩
theorem viX8_works : Cond.instanceMethod (aw_y MX8_works) ∈ aw_tbl ∧ Cond.selects (aw_y MX8_works).cls (aw_y MX8_works) (aw_y MX8_works) ∈ aw_tbl := ⟨aw_pl 987 (by decide +kernel) rfl, aw_pl 31 (by decide +kernel) rfl⟩
theorem lkX8_190 : aw_LV RX8 190 7 1 MX8_works := ⟨⟨aw_pl 985 (by decide +kernel) rfl, viX8_works⟩, okX8_works, by decide +kernel⟩
theorem okX8_isPart : aw_ok MX8_isPart 1 := ⟨aw_pl 1031 (by decide +kernel) rfl, aw_pl 62 (by decide +kernel) rfl, ⟨by decide +kernel, by decide +kernel⟩, by decide +kernel, by decide⟩
theorem siX8_isPart : Cond.static (aw_y MX8_isPart) ∈ aw_tbl := aw_pl 1030 (by decide +kernel) rfl
theorem lkX8_193 : aw_LS RX8 193 1 MX8_isPart := ⟨⟨aw_pl 1029 (by decide +kernel) rfl, siX8_isPart⟩, okX8_isPart⟩
theorem okX8_lacks : aw_ok MX8_lacks 2 := ⟨aw_pl 1035 (by decide +kernel) rfl, aw_pl 62 (by decide +kernel) rfl, ⟨by decide +kernel, by decide +kernel⟩, by decide +kernel, by decide⟩
theorem viX8_lacks : Cond.instanceMethod (aw_y MX8_lacks) ∈ aw_tbl ∧ Cond.selects (aw_y MX8_lacks).cls (aw_y MX8_lacks) (aw_y MX8_lacks) ∈ aw_tbl := ⟨aw_pl 1034 (by decide +kernel) rfl, aw_pl 41 (by decide +kernel) rfl⟩
theorem lkX8_196 : aw_LV RX8 196 7 2 MX8_lacks := ⟨⟨aw_pl 1032 (by decide +kernel) rfl, viX8_lacks⟩, okX8_lacks, by decide +kernel⟩
theorem okX8_refused : aw_ok MX8_refused 1 := ⟨aw_pl 1038 (by decide +kernel) rfl, aw_pl 62 (by decide +kernel) rfl, ⟨by decide +kernel, by decide +kernel⟩, by decide +kernel, by decide⟩
theorem siX8_refused : Cond.static (aw_y MX8_refused) ∈ aw_tbl := aw_pl 1037 (by decide +kernel) rfl
theorem lkX8_200 : aw_LS RX8 200 1 MX8_refused := ⟨⟨aw_pl 1036 (by decide +kernel) rfl, siX8_refused⟩, okX8_refused⟩
theorem okX8_lowest : aw_ok MX8_lowest 3 := ⟨aw_pl 1042 (by decide +kernel) rfl, aw_pl 62 (by decide +kernel) rfl, ⟨by decide +kernel, by decide +kernel⟩, by decide +kernel, by decide⟩
theorem siX8_lowest : Cond.static (aw_y MX8_lowest) ∈ aw_tbl := aw_pl 1041 (by decide +kernel) rfl
theorem lkX8_203 : aw_LS RX8 203 3 MX8_lowest := ⟨⟨aw_pl 1040 (by decide +kernel) rfl, siX8_lowest⟩, okX8_lowest⟩
theorem okX8_worthOf : aw_ok MX8_worthOf 0 := ⟨aw_pl 1053 (by decide +kernel) rfl, aw_pl 62 (by decide +kernel) rfl, ⟨by decide +kernel, by decide +kernel⟩, by decide +kernel, by decide⟩
theorem viX8_worthOf : Cond.instanceMethod (aw_y MX8_worthOf) ∈ aw_tbl ∧ Cond.selects (aw_y MX8_worthOf).cls (aw_y MX8_worthOf) (aw_y MX8_worthOf) ∈ aw_tbl := ⟨aw_pl 1052 (by decide +kernel) rfl, aw_pl 42 (by decide +kernel) rfl⟩
theorem lkX8_207 : aw_LV RX8 207 7 0 MX8_worthOf := ⟨⟨aw_pl 1050 (by decide +kernel) rfl, viX8_worthOf⟩, okX8_worthOf, by decide +kernel⟩
theorem okX8_heldNow : aw_ok MX8_heldNow 0 := ⟨aw_pl 1069 (by decide +kernel) rfl, aw_pl 62 (by decide +kernel) rfl, ⟨by decide +kernel, by decide +kernel⟩, by decide +kernel, by decide⟩
theorem viX8_heldNow : Cond.instanceMethod (aw_y MX8_heldNow) ∈ aw_tbl ∧ Cond.selects (aw_y MX8_heldNow).cls (aw_y MX8_heldNow) (aw_y MX8_heldNow) ∈ aw_tbl := ⟨aw_pl 1068 (by decide +kernel) rfl, aw_pl 43 (by decide +kernel) rfl⟩
theorem lkX8_210 : aw_LV RX8 210 7 0 MX8_heldNow := ⟨⟨aw_pl 1066 (by decide +kernel) rfl, viX8_heldNow⟩, okX8_heldNow, by decide +kernel⟩
theorem okX8_walks : aw_ok MX8_walks 0 := ⟨aw_pl 1081 (by decide +kernel) rfl, aw_pl 62 (by decide +kernel) rfl, ⟨by decide +kernel, by decide +kernel⟩, by decide +kernel, by decide⟩
theorem viX8_walks : Cond.instanceMethod (aw_y MX8_walks) ∈ aw_tbl ∧ Cond.selects (aw_y MX8_walks).cls (aw_y MX8_walks) (aw_y MX8_walks) ∈ aw_tbl := ⟨aw_pl 1080 (by decide +kernel) rfl, aw_pl 44 (by decide +kernel) rfl⟩
theorem lkX8_217 : aw_LV RX8 217 7 0 MX8_walks := ⟨⟨aw_pl 1078 (by decide +kernel) rfl, viX8_walks⟩, okX8_walks, by decide +kernel⟩
theorem okX8_all : aw_ok MX8_all 0 := ⟨aw_pl 1093 (by decide +kernel) rfl, aw_pl 62 (by decide +kernel) rfl, ⟨by decide +kernel, by decide +kernel⟩, by decide +kernel, by decide⟩
theorem viX8_all : Cond.instanceMethod (aw_y MX8_all) ∈ aw_tbl ∧ Cond.selects (aw_y MX8_all).cls (aw_y MX8_all) (aw_y MX8_all) ∈ aw_tbl := ⟨aw_pl 1092 (by decide +kernel) rfl, aw_pl 45 (by decide +kernel) rfl⟩
theorem lkX8_220 : aw_LV RX8 220 7 0 MX8_all := ⟨⟨aw_pl 1090 (by decide +kernel) rfl, viX8_all⟩, okX8_all, by decide +kernel⟩
theorem okX8_findsRise : aw_ok MX8_findsRise 1 := ⟨aw_pl 1101 (by decide +kernel) rfl, aw_pl 62 (by decide +kernel) rfl, ⟨by decide +kernel, by decide +kernel⟩, by decide +kernel, by decide⟩
theorem viX8_findsRise : Cond.instanceMethod (aw_y MX8_findsRise) ∈ aw_tbl ∧ Cond.selects (aw_y MX8_findsRise).cls (aw_y MX8_findsRise) (aw_y MX8_findsRise) ∈ aw_tbl := ⟨aw_pl 1100 (by decide +kernel) rfl, aw_pl 46 (by decide +kernel) rfl⟩
theorem lkX8_233 : aw_LV RX8 233 7 1 MX8_findsRise := ⟨⟨aw_pl 1098 (by decide +kernel) rfl, viX8_findsRise⟩, okX8_findsRise, by decide +kernel⟩
theorem okX8_bounds : aw_ok MX8_bounds 2 := ⟨aw_pl 1109 (by decide +kernel) rfl, aw_pl 62 (by decide +kernel) rfl, ⟨by decide +kernel, by decide +kernel⟩, by decide +kernel, by decide⟩
theorem viX8_bounds : Cond.instanceMethod (aw_y MX8_bounds) ∈ aw_tbl ∧ Cond.selects (aw_y MX8_bounds).cls (aw_y MX8_bounds) (aw_y MX8_bounds) ∈ aw_tbl := ⟨aw_pl 1108 (by decide +kernel) rfl, aw_pl 48 (by decide +kernel) rfl⟩
theorem lkX8_236 : aw_LV RX8 236 7 2 MX8_bounds := ⟨⟨aw_pl 1106 (by decide +kernel) rfl, viX8_bounds⟩, okX8_bounds, by decide +kernel⟩
theorem okX8_isPlace : aw_ok MX8_isPlace 3 := ⟨aw_pl 1120 (by decide +kernel) rfl, aw_pl 62 (by decide +kernel) rfl, ⟨by decide +kernel, by decide +kernel⟩, by decide +kernel, by decide⟩
theorem siX8_isPlace : Cond.static (aw_y MX8_isPlace) ∈ aw_tbl := aw_pl 1119 (by decide +kernel) rfl
theorem lkX8_243 : aw_LS RX8 243 3 MX8_isPlace := ⟨⟨aw_pl 1118 (by decide +kernel) rfl, siX8_isPlace⟩, okX8_isPlace⟩
theorem okX8_isNear : aw_ok MX8_isNear 1 := ⟨aw_pl 1124 (by decide +kernel) rfl, aw_pl 62 (by decide +kernel) rfl, ⟨by decide +kernel, by decide +kernel⟩, by decide +kernel, by decide⟩
theorem viX8_isNear : Cond.instanceMethod (aw_y MX8_isNear) ∈ aw_tbl ∧ Cond.selects (aw_y MX8_isNear).cls (aw_y MX8_isNear) (aw_y MX8_isNear) ∈ aw_tbl := ⟨aw_pl 1123 (by decide +kernel) rfl, aw_pl 49 (by decide +kernel) rfl⟩
theorem lkX8_247 : aw_LV RX8 247 7 1 MX8_isNear := ⟨⟨aw_pl 1121 (by decide +kernel) rfl, viX8_isNear⟩, okX8_isNear, by decide +kernel⟩
theorem okX8_isSheet : aw_ok MX8_isSheet 1 := ⟨aw_pl 1135 (by decide +kernel) rfl, aw_pl 62 (by decide +kernel) rfl, ⟨by decide +kernel, by decide +kernel⟩, by decide +kernel, by decide⟩
theorem siX8_isSheet : Cond.static (aw_y MX8_isSheet) ∈ aw_tbl := aw_pl 1134 (by decide +kernel) rfl
theorem lkX8_251 : aw_LS RX8 251 1 MX8_isSheet := ⟨⟨aw_pl 1133 (by decide +kernel) rfl, siX8_isSheet⟩, okX8_isSheet⟩
theorem okX8_becomesRow : aw_ok MX8_becomesRow 3 := ⟨aw_pl 1139 (by decide +kernel) rfl, aw_pl 62 (by decide +kernel) rfl, ⟨by decide +kernel, by decide +kernel⟩, by decide +kernel, by decide⟩
theorem viX8_becomesRow : Cond.instanceMethod (aw_y MX8_becomesRow) ∈ aw_tbl ∧ Cond.selects (aw_y MX8_becomesRow).cls (aw_y MX8_becomesRow) (aw_y MX8_becomesRow) ∈ aw_tbl := ⟨aw_pl 1138 (by decide +kernel) rfl, aw_pl 50 (by decide +kernel) rfl⟩
theorem lkX8_254 : aw_LV RX8 254 7 3 MX8_becomesRow := ⟨⟨aw_pl 1136 (by decide +kernel) rfl, viX8_becomesRow⟩, okX8_becomesRow, by decide +kernel⟩
theorem okX8_isStill : aw_ok MX8_isStill 0 := ⟨aw_pl 1149 (by decide +kernel) rfl, aw_pl 62 (by decide +kernel) rfl, ⟨by decide +kernel, by decide +kernel⟩, by decide +kernel, by decide⟩
theorem viX8_isStill : Cond.instanceMethod (aw_y MX8_isStill) ∈ aw_tbl ∧ Cond.selects (aw_y MX8_isStill).cls (aw_y MX8_isStill) (aw_y MX8_isStill) ∈ aw_tbl := ⟨aw_pl 1148 (by decide +kernel) rfl, aw_pl 51 (by decide +kernel) rfl⟩
theorem lkX8_262 : aw_LV RX8 262 7 0 MX8_isStill := ⟨⟨aw_pl 1146 (by decide +kernel) rfl, viX8_isStill⟩, okX8_isStill, by decide +kernel⟩
theorem okX8_wrong : aw_ok MX8_wrong 2 := ⟨aw_pl 1184 (by decide +kernel) rfl, aw_pl 62 (by decide +kernel) rfl, ⟨by decide +kernel, by decide +kernel⟩, by decide +kernel, by decide⟩
theorem viX8_wrong : Cond.instanceMethod (aw_y MX8_wrong) ∈ aw_tbl ∧ Cond.selects (aw_y MX8_wrong).cls (aw_y MX8_wrong) (aw_y MX8_wrong) ∈ aw_tbl := ⟨aw_pl 1183 (by decide +kernel) rfl, aw_pl 52 (by decide +kernel) rfl⟩
theorem lkX8_283 : aw_LV RX8 283 7 2 MX8_wrong := ⟨⟨aw_pl 1181 (by decide +kernel) rfl, viX8_wrong⟩, okX8_wrong, by decide +kernel⟩
theorem flX0_7 : aw_F RX0 7 0 0 0 := ⟨_, _, _, _, aw_C0, by decide, aw_pl 249 (by decide +kernel) rfl, rfl⟩
theorem fwX0_7 : aw_Fw RX0 7 0 0 0 := ⟨_, _, _, _, aw_C0, by decide, aw_pl 249 (by decide +kernel) rfl, rfl, rfl⟩
theorem flX0_13 : aw_F RX0 13 0 1 1 := ⟨_, _, _, _, aw_C0, by decide, aw_pl 251 (by decide +kernel) rfl, rfl⟩
theorem fwX0_13 : aw_Fw RX0 13 0 1 1 := ⟨_, _, _, _, aw_C0, by decide, aw_pl 251 (by decide +kernel) rfl, rfl, rfl⟩
theorem flX0_19 : aw_F RX0 19 0 4 1 := ⟨_, _, _, _, aw_C0, by decide, aw_pl 257 (by decide +kernel) rfl, rfl⟩
theorem fwX0_19 : aw_Fw RX0 19 0 4 1 := ⟨_, _, _, _, aw_C0, by decide, aw_pl 257 (by decide +kernel) rfl, rfl, rfl⟩
theorem flX0_22 : aw_F RX0 22 0 3 1 := ⟨_, _, _, _, aw_C0, by decide, aw_pl 255 (by decide +kernel) rfl, rfl⟩
theorem fwX0_22 : aw_Fw RX0 22 0 3 1 := ⟨_, _, _, _, aw_C0, by decide, aw_pl 255 (by decide +kernel) rfl, rfl, rfl⟩
theorem flX0_25 : aw_F RX0 25 0 2 1 := ⟨_, _, _, _, aw_C0, by decide, aw_pl 253 (by decide +kernel) rfl, rfl⟩
theorem fwX0_25 : aw_Fw RX0 25 0 2 1 := ⟨_, _, _, _, aw_C0, by decide, aw_pl 253 (by decide +kernel) rfl, rfl, rfl⟩
theorem flX1_9 : aw_F RX1 9 1 0 0 := ⟨_, _, _, _, aw_C1, by decide, aw_pl 81 (by decide +kernel) rfl, rfl⟩
theorem fwX1_9 : aw_Fw RX1 9 1 0 0 := ⟨_, _, _, _, aw_C1, by decide, aw_pl 81 (by decide +kernel) rfl, rfl, rfl⟩
theorem flX1_15 : aw_F RX1 15 1 3 2 := ⟨_, _, _, _, aw_C1, by decide, aw_pl 93 (by decide +kernel) rfl, rfl⟩
theorem flX1_19 : aw_F RX1 19 1 4 2 := ⟨_, _, _, _, aw_C1, by decide, aw_pl 94 (by decide +kernel) rfl, rfl⟩
theorem flX1_22 : aw_F RX1 22 1 5 2 := ⟨_, _, _, _, aw_C1, by decide, aw_pl 98 (by decide +kernel) rfl, rfl⟩
theorem flX1_25 : aw_F RX1 25 1 6 2 := ⟨_, _, _, _, aw_C1, by decide, aw_pl 100 (by decide +kernel) rfl, rfl⟩
theorem flX1_28 : aw_F RX1 28 1 7 2 := ⟨_, _, _, _, aw_C1, by decide, aw_pl 102 (by decide +kernel) rfl, rfl⟩
theorem flX1_31 : aw_F RX1 31 1 8 2 := ⟨_, _, _, _, aw_C1, by decide, aw_pl 104 (by decide +kernel) rfl, rfl⟩
theorem flX1_34 : aw_F RX1 34 1 1 0 := ⟨_, _, _, _, aw_C1, by decide, aw_pl 85 (by decide +kernel) rfl, rfl⟩
theorem fwX1_34 : aw_Fw RX1 34 1 1 0 := ⟨_, _, _, _, aw_C1, by decide, aw_pl 85 (by decide +kernel) rfl, rfl, rfl⟩
theorem flX1_37 : aw_F RX1 37 1 2 0 := ⟨_, _, _, _, aw_C1, by decide, aw_pl 90 (by decide +kernel) rfl, rfl⟩
theorem fwX1_37 : aw_Fw RX1 37 1 2 0 := ⟨_, _, _, _, aw_C1, by decide, aw_pl 90 (by decide +kernel) rfl, rfl, rfl⟩
theorem flX1_74 : aw_F RX1 74 3 2 1 := ⟨_, _, _, _, aw_C3, by decide, aw_pl 151 (by decide +kernel) rfl, rfl⟩
theorem flX1_83 : aw_F RX1 83 3 0 2 := ⟨_, _, _, _, aw_C3, by decide, aw_pl 142 (by decide +kernel) rfl, rfl⟩
theorem flX2_12 : aw_F RX2 12 2 1 2 := ⟨_, _, _, _, aw_C2, by decide, aw_pl 237 (by decide +kernel) rfl, rfl⟩
theorem flX2_18 : aw_F RX2 18 2 0 2 := ⟨_, _, _, _, aw_C2, by decide, aw_pl 236 (by decide +kernel) rfl, rfl⟩
theorem flX2_22 : aw_F RX2 22 1 0 0 := ⟨_, _, _, _, aw_C1, by decide, aw_pl 82 (by decide +kernel) rfl, rfl⟩
theorem flX2_28 : aw_F RX2 28 1 2 0 := ⟨_, _, _, _, aw_C1, by decide, aw_pl 89 (by decide +kernel) rfl, rfl⟩
theorem flX2_45 : aw_F RX2 45 3 0 2 := ⟨_, _, _, _, aw_C3, by decide, aw_pl 139 (by decide +kernel) rfl, rfl⟩
theorem flX2_53 : aw_F RX2 53 3 1 2 := ⟨_, _, _, _, aw_C3, by decide, aw_pl 144 (by decide +kernel) rfl, rfl⟩
theorem flX2_56 : aw_F RX2 56 3 2 1 := ⟨_, _, _, _, aw_C3, by decide, aw_pl 148 (by decide +kernel) rfl, rfl⟩
theorem fwX2_56 : aw_Fw RX2 56 3 2 1 := ⟨_, _, _, _, aw_C3, by decide, aw_pl 148 (by decide +kernel) rfl, rfl, rfl⟩
theorem flX2_83 : aw_F RX2 83 1 1 0 := ⟨_, _, _, _, aw_C1, by decide, aw_pl 87 (by decide +kernel) rfl, rfl⟩
theorem flX2_94 : aw_F RX2 94 1 4 2 := ⟨_, _, _, _, aw_C1, by decide, aw_pl 97 (by decide +kernel) rfl, rfl⟩
theorem flX4_9 : aw_F RX4 9 3 0 2 := ⟨_, _, _, _, aw_C3, by decide, aw_pl 138 (by decide +kernel) rfl, rfl⟩
theorem flX4_15 : aw_F RX4 15 3 1 2 := ⟨_, _, _, _, aw_C3, by decide, aw_pl 143 (by decide +kernel) rfl, rfl⟩
theorem flX4_18 : aw_F RX4 18 3 2 1 := ⟨_, _, _, _, aw_C3, by decide, aw_pl 147 (by decide +kernel) rfl, rfl⟩
theorem fwX4_18 : aw_Fw RX4 18 3 2 1 := ⟨_, _, _, _, aw_C3, by decide, aw_pl 147 (by decide +kernel) rfl, rfl, rfl⟩
theorem flX5_9 : aw_F RX5 9 4 0 2 := ⟨_, _, _, _, aw_C4, by decide, aw_pl 216 (by decide +kernel) rfl, rfl⟩
theorem flX5_15 : aw_F RX5 15 4 1 2 := ⟨_, _, _, _, aw_C4, by decide, aw_pl 218 (by decide +kernel) rfl, rfl⟩
theorem flX5_18 : aw_F RX5 18 4 2 2 := ⟨_, _, _, _, aw_C4, by decide, aw_pl 220 (by decide +kernel) rfl, rfl⟩
theorem flX6_12 : aw_F RX6 12 5 1 2 := ⟨_, _, _, _, aw_C5, by decide, aw_pl 163 (by decide +kernel) rfl, rfl⟩
theorem flX6_18 : aw_F RX6 18 5 2 2 := ⟨_, _, _, _, aw_C5, by decide, aw_pl 165 (by decide +kernel) rfl, rfl⟩
theorem flX6_21 : aw_F RX6 21 5 3 2 := ⟨_, _, _, _, aw_C5, by decide, aw_pl 166 (by decide +kernel) rfl, rfl⟩
theorem flX6_27 : aw_F RX6 27 5 7 2 := ⟨_, _, _, _, aw_C5, by decide, aw_pl 174 (by decide +kernel) rfl, rfl⟩
theorem flX6_30 : aw_F RX6 30 5 8 2 := ⟨_, _, _, _, aw_C5, by decide, aw_pl 175 (by decide +kernel) rfl, rfl⟩
theorem flX6_33 : aw_F RX6 33 5 9 2 := ⟨_, _, _, _, aw_C5, by decide, aw_pl 176 (by decide +kernel) rfl, rfl⟩
theorem flX6_36 : aw_F RX6 36 5 0 2 := ⟨_, _, _, _, aw_C5, by decide, aw_pl 162 (by decide +kernel) rfl, rfl⟩
theorem flX6_57 : aw_F RX6 57 1 0 0 := ⟨_, _, _, _, aw_C1, by decide, aw_pl 84 (by decide +kernel) rfl, rfl⟩
theorem flX6_76 : aw_F RX6 76 1 2 0 := ⟨_, _, _, _, aw_C1, by decide, aw_pl 91 (by decide +kernel) rfl, rfl⟩
theorem flX6_79 : aw_F RX6 79 5 11 0 := ⟨_, _, _, _, aw_C5, by decide, aw_pl 178 (by decide +kernel) rfl, rfl⟩
theorem fwX6_79 : aw_Fw RX6 79 5 11 0 := ⟨_, _, _, _, aw_C5, by decide, aw_pl 178 (by decide +kernel) rfl, rfl, rfl⟩
theorem flX6_89 : aw_F RX6 89 1 4 2 := ⟨_, _, _, _, aw_C1, by decide, aw_pl 96 (by decide +kernel) rfl, rfl⟩
theorem flX6_108 : aw_F RX6 108 5 12 1 := ⟨_, _, _, _, aw_C5, by decide, aw_pl 179 (by decide +kernel) rfl, rfl⟩
theorem fwX6_108 : aw_Fw RX6 108 5 12 1 := ⟨_, _, _, _, aw_C5, by decide, aw_pl 179 (by decide +kernel) rfl, rfl, rfl⟩
theorem flX6_112 : aw_F RX6 112 5 10 0 := ⟨_, _, _, _, aw_C5, by decide, aw_pl 177 (by decide +kernel) rfl, rfl⟩
theorem fwX6_112 : aw_Fw RX6 112 5 10 0 := ⟨_, _, _, _, aw_C5, by decide, aw_pl 177 (by decide +kernel) rfl, rfl, rfl⟩
theorem flX6_115 : aw_F RX6 115 3 2 1 := ⟨_, _, _, _, aw_C3, by decide, aw_pl 149 (by decide +kernel) rfl, rfl⟩
theorem fwX6_115 : aw_Fw RX6 115 3 2 1 := ⟨_, _, _, _, aw_C3, by decide, aw_pl 149 (by decide +kernel) rfl, rfl, rfl⟩
theorem flX6_116 : aw_F RX6 116 3 1 2 := ⟨_, _, _, _, aw_C3, by decide, aw_pl 145 (by decide +kernel) rfl, rfl⟩
theorem flX6_120 : aw_F RX6 120 3 0 2 := ⟨_, _, _, _, aw_C3, by decide, aw_pl 140 (by decide +kernel) rfl, rfl⟩
theorem flX6_138 : aw_F RX6 138 1 1 0 := ⟨_, _, _, _, aw_C1, by decide, aw_pl 88 (by decide +kernel) rfl, rfl⟩
theorem flX6_142 : aw_F RX6 142 5 4 0 := ⟨_, _, _, _, aw_C5, by decide, aw_pl 168 (by decide +kernel) rfl, rfl⟩
theorem fwX6_142 : aw_Fw RX6 142 5 4 0 := ⟨_, _, _, _, aw_C5, by decide, aw_pl 168 (by decide +kernel) rfl, rfl, rfl⟩
theorem flX6_159 : aw_F RX6 159 5 6 1 := ⟨_, _, _, _, aw_C5, by decide, aw_pl 172 (by decide +kernel) rfl, rfl⟩
theorem fwX6_159 : aw_Fw RX6 159 5 6 1 := ⟨_, _, _, _, aw_C5, by decide, aw_pl 172 (by decide +kernel) rfl, rfl, rfl⟩
theorem flX6_172 : aw_F RX6 172 5 5 1 := ⟨_, _, _, _, aw_C5, by decide, aw_pl 170 (by decide +kernel) rfl, rfl⟩
theorem fwX6_172 : aw_Fw RX6 172 5 5 1 := ⟨_, _, _, _, aw_C5, by decide, aw_pl 170 (by decide +kernel) rfl, rfl, rfl⟩
theorem flX7_10 : aw_F RX7 10 6 0 2 := ⟨_, _, _, _, aw_C6, by decide, aw_pl 282 (by decide +kernel) rfl, rfl⟩
theorem flX7_16 : aw_F RX7 16 6 1 2 := ⟨_, _, _, _, aw_C6, by decide, aw_pl 283 (by decide +kernel) rfl, rfl⟩
theorem flX7_19 : aw_F RX7 19 6 2 2 := ⟨_, _, _, _, aw_C6, by decide, aw_pl 284 (by decide +kernel) rfl, rfl⟩
theorem flX7_27 : aw_F RX7 27 6 3 2 := ⟨_, _, _, _, aw_C6, by decide, aw_pl 285 (by decide +kernel) rfl, rfl⟩
theorem flX7_31 : aw_F RX7 31 6 4 2 := ⟨_, _, _, _, aw_C6, by decide, aw_pl 286 (by decide +kernel) rfl, rfl⟩
theorem flX7_37 : aw_F RX7 37 6 5 2 := ⟨_, _, _, _, aw_C6, by decide, aw_pl 287 (by decide +kernel) rfl, rfl⟩
theorem flX7_44 : aw_F RX7 44 6 6 2 := ⟨_, _, _, _, aw_C6, by decide, aw_pl 288 (by decide +kernel) rfl, rfl⟩
theorem flX7_51 : aw_F RX7 51 6 7 2 := ⟨_, _, _, _, aw_C6, by decide, aw_pl 289 (by decide +kernel) rfl, rfl⟩
theorem flX7_59 : aw_F RX7 59 1 0 0 := ⟨_, _, _, _, aw_C1, by decide, aw_pl 83 (by decide +kernel) rfl, rfl⟩
theorem flX7_83 : aw_F RX7 83 1 4 2 := ⟨_, _, _, _, aw_C1, by decide, aw_pl 95 (by decide +kernel) rfl, rfl⟩
theorem flX7_87 : aw_F RX7 87 1 1 0 := ⟨_, _, _, _, aw_C1, by decide, aw_pl 86 (by decide +kernel) rfl, rfl⟩
theorem fwX7_87 : aw_Fw RX7 87 1 1 0 := ⟨_, _, _, _, aw_C1, by decide, aw_pl 86 (by decide +kernel) rfl, rfl, rfl⟩
theorem flX7_93 : aw_F RX7 93 1 2 0 := ⟨_, _, _, _, aw_C1, by decide, aw_pl 92 (by decide +kernel) rfl, rfl⟩
theorem flX7_103 : aw_F RX7 103 1 8 2 := ⟨_, _, _, _, aw_C1, by decide, aw_pl 105 (by decide +kernel) rfl, rfl⟩
theorem flX7_109 : aw_F RX7 109 1 5 2 := ⟨_, _, _, _, aw_C1, by decide, aw_pl 99 (by decide +kernel) rfl, rfl⟩
theorem flX7_112 : aw_F RX7 112 1 6 2 := ⟨_, _, _, _, aw_C1, by decide, aw_pl 101 (by decide +kernel) rfl, rfl⟩
theorem flX7_115 : aw_F RX7 115 1 7 2 := ⟨_, _, _, _, aw_C1, by decide, aw_pl 103 (by decide +kernel) rfl, rfl⟩
theorem flX7_147 : aw_F RX7 147 5 1 2 := ⟨_, _, _, _, aw_C5, by decide, aw_pl 164 (by decide +kernel) rfl, rfl⟩
theorem flX7_151 : aw_F RX7 151 3 0 2 := ⟨_, _, _, _, aw_C3, by decide, aw_pl 141 (by decide +kernel) rfl, rfl⟩
theorem flX7_157 : aw_F RX7 157 3 2 1 := ⟨_, _, _, _, aw_C3, by decide, aw_pl 150 (by decide +kernel) rfl, rfl⟩
theorem flX7_176 : aw_F RX7 176 3 1 2 := ⟨_, _, _, _, aw_C3, by decide, aw_pl 146 (by decide +kernel) rfl, rfl⟩
theorem flX7_193 : aw_F RX7 193 5 4 0 := ⟨_, _, _, _, aw_C5, by decide, aw_pl 169 (by decide +kernel) rfl, rfl⟩
theorem flX7_196 : aw_F RX7 196 5 3 2 := ⟨_, _, _, _, aw_C5, by decide, aw_pl 167 (by decide +kernel) rfl, rfl⟩
theorem flX7_210 : aw_F RX7 210 5 5 1 := ⟨_, _, _, _, aw_C5, by decide, aw_pl 171 (by decide +kernel) rfl, rfl⟩
theorem flX7_213 : aw_F RX7 213 5 6 1 := ⟨_, _, _, _, aw_C5, by decide, aw_pl 173 (by decide +kernel) rfl, rfl⟩
theorem flX7_233 : aw_F RX7 233 4 0 2 := ⟨_, _, _, _, aw_C4, by decide, aw_pl 217 (by decide +kernel) rfl, rfl⟩
theorem flX7_236 : aw_F RX7 236 4 1 2 := ⟨_, _, _, _, aw_C4, by decide, aw_pl 219 (by decide +kernel) rfl, rfl⟩
theorem flX7_259 : aw_F RX7 259 0 0 0 := ⟨_, _, _, _, aw_C0, by decide, aw_pl 250 (by decide +kernel) rfl, rfl⟩
theorem flX7_262 : aw_F RX7 262 0 1 1 := ⟨_, _, _, _, aw_C0, by decide, aw_pl 252 (by decide +kernel) rfl, rfl⟩
theorem flX7_270 : aw_F RX7 270 0 3 1 := ⟨_, _, _, _, aw_C0, by decide, aw_pl 256 (by decide +kernel) rfl, rfl⟩
theorem flX7_273 : aw_F RX7 273 0 2 1 := ⟨_, _, _, _, aw_C0, by decide, aw_pl 254 (by decide +kernel) rfl, rfl⟩
theorem flX7_300 : aw_F RX7 300 6 8 3 := ⟨_, _, _, _, aw_C6, by decide, aw_pl 290 (by decide +kernel) rfl, rfl⟩
theorem fwX7_300 : aw_Fw RX7 300 6 8 3 := ⟨_, _, _, _, aw_C6, by decide, aw_pl 290 (by decide +kernel) rfl, rfl, rfl⟩
theorem flX8_7 : aw_F RX8 7 7 0 0 := ⟨_, _, _, _, aw_C7, by decide, aw_pl 785 (by decide +kernel) rfl, rfl⟩
theorem fwX8_7 : aw_Fw RX8 7 7 0 0 := ⟨_, _, _, _, aw_C7, by decide, aw_pl 785 (by decide +kernel) rfl, rfl, rfl⟩
theorem flX8_13 : aw_F RX8 13 7 1 2 := ⟨_, _, _, _, aw_C7, by decide, aw_pl 786 (by decide +kernel) rfl, rfl⟩
theorem flX8_17 : aw_F RX8 17 7 2 2 := ⟨_, _, _, _, aw_C7, by decide, aw_pl 787 (by decide +kernel) rfl, rfl⟩
theorem flX8_20 : aw_F RX8 20 7 5 2 := ⟨_, _, _, _, aw_C7, by decide, aw_pl 790 (by decide +kernel) rfl, rfl⟩
theorem flX8_23 : aw_F RX8 23 7 7 2 := ⟨_, _, _, _, aw_C7, by decide, aw_pl 792 (by decide +kernel) rfl, rfl⟩
theorem flX8_26 : aw_F RX8 26 7 10 2 := ⟨_, _, _, _, aw_C7, by decide, aw_pl 795 (by decide +kernel) rfl, rfl⟩
theorem flX8_29 : aw_F RX8 29 7 14 2 := ⟨_, _, _, _, aw_C7, by decide, aw_pl 799 (by decide +kernel) rfl, rfl⟩
theorem flX8_33 : aw_F RX8 33 7 15 2 := ⟨_, _, _, _, aw_C7, by decide, aw_pl 800 (by decide +kernel) rfl, rfl⟩
theorem flX8_36 : aw_F RX8 36 7 16 2 := ⟨_, _, _, _, aw_C7, by decide, aw_pl 801 (by decide +kernel) rfl, rfl⟩
theorem flX8_39 : aw_F RX8 39 7 17 2 := ⟨_, _, _, _, aw_C7, by decide, aw_pl 802 (by decide +kernel) rfl, rfl⟩
theorem flX8_42 : aw_F RX8 42 7 19 2 := ⟨_, _, _, _, aw_C7, by decide, aw_pl 804 (by decide +kernel) rfl, rfl⟩
theorem flX8_45 : aw_F RX8 45 7 20 2 := ⟨_, _, _, _, aw_C7, by decide, aw_pl 805 (by decide +kernel) rfl, rfl⟩
theorem flX8_48 : aw_F RX8 48 7 21 2 := ⟨_, _, _, _, aw_C7, by decide, aw_pl 806 (by decide +kernel) rfl, rfl⟩
theorem flX8_51 : aw_F RX8 51 7 22 2 := ⟨_, _, _, _, aw_C7, by decide, aw_pl 807 (by decide +kernel) rfl, rfl⟩
theorem flX8_54 : aw_F RX8 54 7 23 2 := ⟨_, _, _, _, aw_C7, by decide, aw_pl 808 (by decide +kernel) rfl, rfl⟩
theorem flX8_57 : aw_F RX8 57 7 28 2 := ⟨_, _, _, _, aw_C7, by decide, aw_pl 813 (by decide +kernel) rfl, rfl⟩
theorem flX8_60 : aw_F RX8 60 7 30 2 := ⟨_, _, _, _, aw_C7, by decide, aw_pl 815 (by decide +kernel) rfl, rfl⟩
theorem flX8_63 : aw_F RX8 63 7 31 2 := ⟨_, _, _, _, aw_C7, by decide, aw_pl 816 (by decide +kernel) rfl, rfl⟩
theorem flX8_66 : aw_F RX8 66 7 32 2 := ⟨_, _, _, _, aw_C7, by decide, aw_pl 817 (by decide +kernel) rfl, rfl⟩
theorem flX8_88 : aw_F RX8 88 7 4 0 := ⟨_, _, _, _, aw_C7, by decide, aw_pl 789 (by decide +kernel) rfl, rfl⟩
theorem fwX8_88 : aw_Fw RX8 88 7 4 0 := ⟨_, _, _, _, aw_C7, by decide, aw_pl 789 (by decide +kernel) rfl, rfl, rfl⟩
theorem flX8_93 : aw_F RX8 93 7 3 0 := ⟨_, _, _, _, aw_C7, by decide, aw_pl 788 (by decide +kernel) rfl, rfl⟩
theorem fwX8_93 : aw_Fw RX8 93 7 3 0 := ⟨_, _, _, _, aw_C7, by decide, aw_pl 788 (by decide +kernel) rfl, rfl, rfl⟩
theorem flX8_132 : aw_F RX8 132 7 13 0 := ⟨_, _, _, _, aw_C7, by decide, aw_pl 798 (by decide +kernel) rfl, rfl⟩
theorem fwX8_132 : aw_Fw RX8 132 7 13 0 := ⟨_, _, _, _, aw_C7, by decide, aw_pl 798 (by decide +kernel) rfl, rfl, rfl⟩
theorem flX8_161 : aw_F RX8 161 7 18 1 := ⟨_, _, _, _, aw_C7, by decide, aw_pl 803 (by decide +kernel) rfl, rfl⟩
theorem fwX8_161 : aw_Fw RX8 161 7 18 1 := ⟨_, _, _, _, aw_C7, by decide, aw_pl 803 (by decide +kernel) rfl, rfl, rfl⟩
theorem flX8_214 : aw_F RX8 214 7 24 0 := ⟨_, _, _, _, aw_C7, by decide, aw_pl 809 (by decide +kernel) rfl, rfl⟩
theorem fwX8_214 : aw_Fw RX8 214 7 24 0 := ⟨_, _, _, _, aw_C7, by decide, aw_pl 809 (by decide +kernel) rfl, rfl, rfl⟩
theorem flX8_223 : aw_F RX8 223 7 25 3 := ⟨_, _, _, _, aw_C7, by decide, aw_pl 810 (by decide +kernel) rfl, rfl⟩
theorem fwX8_223 : aw_Fw RX8 223 7 25 3 := ⟨_, _, _, _, aw_C7, by decide, aw_pl 810 (by decide +kernel) rfl, rfl, rfl⟩
theorem flX8_227 : aw_F RX8 227 7 26 1 := ⟨_, _, _, _, aw_C7, by decide, aw_pl 811 (by decide +kernel) rfl, rfl⟩
theorem fwX8_227 : aw_Fw RX8 227 7 26 1 := ⟨_, _, _, _, aw_C7, by decide, aw_pl 811 (by decide +kernel) rfl, rfl, rfl⟩
theorem flX8_230 : aw_F RX8 230 7 27 1 := ⟨_, _, _, _, aw_C7, by decide, aw_pl 812 (by decide +kernel) rfl, rfl⟩
theorem fwX8_230 : aw_Fw RX8 230 7 27 1 := ⟨_, _, _, _, aw_C7, by decide, aw_pl 812 (by decide +kernel) rfl, rfl, rfl⟩
theorem flX8_240 : aw_F RX8 240 7 29 1 := ⟨_, _, _, _, aw_C7, by decide, aw_pl 814 (by decide +kernel) rfl, rfl⟩
theorem fwX8_240 : aw_Fw RX8 240 7 29 1 := ⟨_, _, _, _, aw_C7, by decide, aw_pl 814 (by decide +kernel) rfl, rfl, rfl⟩
theorem flX8_265 : aw_F RX8 265 7 12 1 := ⟨_, _, _, _, aw_C7, by decide, aw_pl 797 (by decide +kernel) rfl, rfl⟩
theorem fwX8_265 : aw_Fw RX8 265 7 12 1 := ⟨_, _, _, _, aw_C7, by decide, aw_pl 797 (by decide +kernel) rfl, rfl, rfl⟩
theorem flX8_268 : aw_F RX8 268 7 11 1 := ⟨_, _, _, _, aw_C7, by decide, aw_pl 796 (by decide +kernel) rfl, rfl⟩
theorem fwX8_268 : aw_Fw RX8 268 7 11 1 := ⟨_, _, _, _, aw_C7, by decide, aw_pl 796 (by decide +kernel) rfl, rfl, rfl⟩
theorem flX8_271 : aw_F RX8 271 7 9 1 := ⟨_, _, _, _, aw_C7, by decide, aw_pl 794 (by decide +kernel) rfl, rfl⟩
theorem fwX8_271 : aw_Fw RX8 271 7 9 1 := ⟨_, _, _, _, aw_C7, by decide, aw_pl 794 (by decide +kernel) rfl, rfl, rfl⟩
theorem flX8_276 : aw_F RX8 276 7 8 0 := ⟨_, _, _, _, aw_C7, by decide, aw_pl 793 (by decide +kernel) rfl, rfl⟩
theorem fwX8_276 : aw_Fw RX8 276 7 8 0 := ⟨_, _, _, _, aw_C7, by decide, aw_pl 793 (by decide +kernel) rfl, rfl, rfl⟩
theorem flX8_286 : aw_F RX8 286 7 6 3 := ⟨_, _, _, _, aw_C7, by decide, aw_pl 791 (by decide +kernel) rfl, rfl⟩
theorem fwX8_286 : aw_Fw RX8 286 7 6 3 := ⟨_, _, _, _, aw_C7, by decide, aw_pl 791 (by decide +kernel) rfl, rfl, rfl⟩
end
section
/-! THE LAYER AW: calls by what they return; numbers that are nI of a Nat; switches; arraycopy -/
section AWT
variable {G : aw_G} {M M' : aw_M} {N0 d d' mc ms : Nat} {Q : aw_Q} {Ω : aw_O} {I : aw_MI} {J : aw_MJ} {k n : Nat} {lv : List Value} {pc : Nat} {st : List Value}
theorem aw_cvI {idx ci i np : Nat} {As rest : List Value} (hd : decode (aw_cc M) pc = .ok (.invokevirtual idx, 3)) (hl : aw_LV (aw_y M).cls idx ci np M') (hi : aw_is Ω i (.inl ci)) (hdd : d' + 1 ≤ d) (hn : As.length = np) (hst : st = As.reverse ++ .ref (aw_ad G i) :: rest) (hw : (rest.map fun v => v.category).sum ≤ 8) (hm : k ≤ mc ∧ n ≤ ms)
    (hc : aw_Call G M' d' 0 0 (.ref (aw_ad G i) :: As) Ω I J (aw_QI (fun x Ω' I' J' => AW G M N0 d mc ms Q Ω' I' J' k n lv (pc + 3) (.int x :: rest)))) : AW G M N0 d mc ms Q Ω I J k n lv pc st :=
  aw_cv hd hl.1 hl.2.1 hl.2.2 hi hdd hn hst hw hc hm (fun v Ω' I' J' q => by obtain ⟨x, e, q⟩ := q; subst e; exact q)
theorem aw_cvL {idx ci i np : Nat} {As rest : List Value} (hd : decode (aw_cc M) pc = .ok (.invokevirtual idx, 3)) (hl : aw_LV (aw_y M).cls idx ci np M') (hi : aw_is Ω i (.inl ci)) (hdd : d' + 1 ≤ d) (hn : As.length = np) (hst : st = As.reverse ++ .ref (aw_ad G i) :: rest) (hw : (rest.map fun v => v.category).sum ≤ 8) (hm : k ≤ mc ∧ n ≤ ms)
    (hc : aw_Call G M' d' 0 0 (.ref (aw_ad G i) :: As) Ω I J (aw_QL (fun x Ω' I' J' => AW G M N0 d mc ms Q Ω' I' J' k n lv (pc + 3) (.long x :: rest)))) : AW G M N0 d mc ms Q Ω I J k n lv pc st :=
  aw_cv hd hl.1 hl.2.1 hl.2.2 hi hdd hn hst hw hc hm (fun v Ω' I' J' q => by obtain ⟨x, e, q⟩ := q; subst e; exact q)
theorem aw_cvV {idx ci i np : Nat} {As rest : List Value} (hd : decode (aw_cc M) pc = .ok (.invokevirtual idx, 3)) (hl : aw_LV (aw_y M).cls idx ci np M') (hi : aw_is Ω i (.inl ci)) (hdd : d' + 1 ≤ d) (hn : As.length = np) (hst : st = As.reverse ++ .ref (aw_ad G i) :: rest) (hw : (rest.map fun v => v.category).sum ≤ 8) (hm : k ≤ mc ∧ n ≤ ms)
    (hc : aw_Call G M' d' 0 0 (.ref (aw_ad G i) :: As) Ω I J (aw_QV (fun Ω' I' J' => AW G M N0 d mc ms Q Ω' I' J' k n lv (pc + 3) rest))) : AW G M N0 d mc ms Q Ω I J k n lv pc st :=
  aw_cv hd hl.1 hl.2.1 hl.2.2 hi hdd hn hst hw hc hm (fun v Ω' I' J' q => by obtain ⟨e, q⟩ := q; subst e; exact q)
theorem aw_csI {idx np : Nat} {As rest : List Value} (hd : decode (aw_cc M) pc = .ok (.invokestatic idx, 3)) (hl : aw_LS (aw_y M).cls idx np M') (hdd : d' + 1 ≤ d) (hn : As.length = np) (hst : st = As.reverse ++ rest) (hw : (rest.map fun v => v.category).sum ≤ 8) (hm : k ≤ mc ∧ n ≤ ms)
    (hc : aw_Call G M' d' 0 0 As Ω I J (aw_QI (fun x Ω' I' J' => AW G M N0 d mc ms Q Ω' I' J' k n lv (pc + 3) (.int x :: rest)))) : AW G M N0 d mc ms Q Ω I J k n lv pc st :=
  aw_cs hd hl.1 hl.2 hdd hn hst hw hc hm (fun v Ω' I' J' q => by obtain ⟨x, e, q⟩ := q; subst e; exact q)
theorem aw_csL {idx np : Nat} {As rest : List Value} (hd : decode (aw_cc M) pc = .ok (.invokestatic idx, 3)) (hl : aw_LS (aw_y M).cls idx np M') (hdd : d' + 1 ≤ d) (hn : As.length = np) (hst : st = As.reverse ++ rest) (hw : (rest.map fun v => v.category).sum ≤ 8) (hm : k ≤ mc ∧ n ≤ ms)
    (hc : aw_Call G M' d' 0 0 As Ω I J (aw_QL (fun x Ω' I' J' => AW G M N0 d mc ms Q Ω' I' J' k n lv (pc + 3) (.long x :: rest)))) : AW G M N0 d mc ms Q Ω I J k n lv pc st :=
  aw_cs hd hl.1 hl.2 hdd hn hst hw hc hm (fun v Ω' I' J' q => by obtain ⟨x, e, q⟩ := q; subst e; exact q)
theorem aw_csV {idx np : Nat} {As rest : List Value} (hd : decode (aw_cc M) pc = .ok (.invokestatic idx, 3)) (hl : aw_LS (aw_y M).cls idx np M') (hdd : d' + 1 ≤ d) (hn : As.length = np) (hst : st = As.reverse ++ rest) (hw : (rest.map fun v => v.category).sum ≤ 8) (hm : k ≤ mc ∧ n ≤ ms)
    (hc : aw_Call G M' d' 0 0 As Ω I J (aw_QV (fun Ω' I' J' => AW G M N0 d mc ms Q Ω' I' J' k n lv (pc + 3) rest))) : AW G M N0 d mc ms Q Ω I J k n lv pc st :=
  aw_cs hd hl.1 hl.2 hdd hn hst hw hc hm (fun v Ω' I' J' q => by obtain ⟨e, q⟩ := q; subst e; exact q)
/-- the top of the stack, said otherwise -/
theorem aw_toI {x y : Int32} (h : x = y) (kk : AW G M N0 d mc ms Q Ω I J k n lv pc (.int y :: st)) : AW G M N0 d mc ms Q Ω I J k n lv pc (.int x :: st) := h ▸ kk
theorem aw_toL {x y : Int64} (h : x = y) (kk : AW G M N0 d mc ms Q Ω I J k n lv pc (.long y :: st)) : AW G M N0 d mc ms Q Ω I J k n lv pc (.long x :: st) := h ▸ kk
theorem aw_toM {I' : aw_MI} {J' : aw_MJ} (h : I = I') (h2 : J = J') (kk : AW G M N0 d mc ms Q Ω I' J' k n lv pc st) : AW G M N0 d mc ms Q Ω I J k n lv pc st := by
  subst h
  subst h2
  exact kk
theorem aw_getIv {idx i ci f : Nat} {v : Int32} (hd : decode (aw_cc M) pc = .ok (.getfield idx, 3)) (hf : aw_F (aw_y M).cls idx ci f 0) (hi : aw_is Ω i (.inl ci)) (hv : I i f = v) (kk : AW G M N0 d mc ms Q Ω I J k n lv (pc + 3) (.int v :: st)) : AW G M N0 d mc ms Q Ω I J k n lv pc (.ref (aw_ad G i) :: st) := aw_getI hd hf hi (aw_toI hv kk)
theorem aw_ialdv {i N j : Nat} {x v : Int32} (hd : decode (aw_cc M) pc = .ok (.iaload, 1)) (hi : aw_is Ω i (.inr (0, N))) (hx : x = nI j) (hj : j < N) (hv : I i j = v) (kk : AW G M N0 d mc ms Q Ω I J k n lv (pc + 1) (.int v :: st)) (hN : N ≤ 1000 := by decide) : AW G M N0 d mc ms Q Ω I J k n lv pc (.int x :: .ref (aw_ad G i) :: st) := aw_iald hd hi hx hj (aw_toI hv kk) hN
theorem aw_laldv {i N j : Nat} {x : Int32} {v : Int64} (hd : decode (aw_cc M) pc = .ok (.laload, 1)) (hi : aw_is Ω i (.inr (1, N))) (hx : x = nI j) (hj : j < N) (hv : J i j = v) (kk : AW G M N0 d mc ms Q Ω I J k n lv (pc + 1) (.long v :: st)) (hN : N ≤ 1000 := by decide) : AW G M N0 d mc ms Q Ω I J k n lv pc (.int x :: .ref (aw_ad G i) :: st) := aw_lald hd hi hx hj (aw_toL hv kk) hN
theorem aw_iaddN {a b : Nat} (hd : decode (aw_cc M) pc = .ok (.iadd, 1)) (kk : AW G M N0 d mc ms Q Ω I J k n lv (pc + 1) (.int (nI (a + b)) :: st)) : AW G M N0 d mc ms Q Ω I J k n lv pc (.int (nI b) :: .int (nI a) :: st) := aw_iadd hd (aw_toI (nI_add a b) kk)
theorem aw_imulN {a b : Nat} (hd : decode (aw_cc M) pc = .ok (.imul, 1)) (kk : AW G M N0 d mc ms Q Ω I J k n lv (pc + 1) (.int (nI (a * b)) :: st)) : AW G M N0 d mc ms Q Ω I J k n lv pc (.int (nI b) :: .int (nI a) :: st) := aw_imul hd (aw_toI (pk_mul a b) kk)
theorem aw_isubN {a b : Nat} (hd : decode (aw_cc M) pc = .ok (.isub, 1)) (h : b ≤ a) (kk : AW G M N0 d mc ms Q Ω I J k n lv (pc + 1) (.int (nI (a - b)) :: st)) : AW G M N0 d mc ms Q Ω I J k n lv pc (.int (nI b) :: .int (nI a) :: st) := aw_isub hd (aw_toI (pk_sub h) kk)
theorem aw_iincN {i a : Nat} (hd : decode (aw_cc M) pc = .ok (.iinc i 1, 3)) (hg : lv[i]? = some (.int (nI a))) (hn : i < aw_nL M) (kk : AW G M N0 d mc ms Q Ω I J k n (aw_st1 lv i (.int (nI (a + 1)))) (pc + 3) st) : AW G M N0 d mc ms Q Ω I J k n lv pc st := aw_iinc hd hg (nI_1 a) hn kk
theorem aw_geN {a b : Nat} {off : Int} {t : Nat} (hd : decode (aw_cc M) pc = .ok (.if_icmp .ge off, 3)) (ht : (pc : Int) + off = (t : Int)) (ha : a < 2 ^ 31) (hb : b < 2 ^ 31) (kt : b ≤ a → AW G M N0 d mc ms Q Ω I J k n lv t st) (kf : a < b → AW G M N0 d mc ms Q Ω I J k n lv (pc + 3) st) : AW G M N0 d mc ms Q Ω I J k n lv pc (.int (nI b) :: .int (nI a) :: st) :=
  aw_icmp_ge hd ht (fun q => kt ((nI_leI hb ha).mp q)) (fun q => kf (by have := mt (nI_leI hb ha).mpr q; omega))
theorem aw_gtN {a b : Nat} {off : Int} {t : Nat} (hd : decode (aw_cc M) pc = .ok (.if_icmp .gt off, 3)) (ht : (pc : Int) + off = (t : Int)) (ha : a < 2 ^ 31) (hb : b < 2 ^ 31) (kt : b < a → AW G M N0 d mc ms Q Ω I J k n lv t st) (kf : a ≤ b → AW G M N0 d mc ms Q Ω I J k n lv (pc + 3) st) : AW G M N0 d mc ms Q Ω I J k n lv pc (.int (nI b) :: .int (nI a) :: st) :=
  aw_icmp_gt hd ht (fun q => kt ((nI_ltI hb ha).mp q)) (fun q => kf (by have := mt (nI_ltI hb ha).mpr q; omega))
theorem aw_ltN {a b : Nat} {off : Int} {t : Nat} (hd : decode (aw_cc M) pc = .ok (.if_icmp .lt off, 3)) (ht : (pc : Int) + off = (t : Int)) (ha : a < 2 ^ 31) (hb : b < 2 ^ 31) (kt : a < b → AW G M N0 d mc ms Q Ω I J k n lv t st) (kf : b ≤ a → AW G M N0 d mc ms Q Ω I J k n lv (pc + 3) st) : AW G M N0 d mc ms Q Ω I J k n lv pc (.int (nI b) :: .int (nI a) :: st) :=
  aw_icmp_lt hd ht (fun q => kt ((nI_ltI ha hb).mp q)) (fun q => kf (by have := mt (nI_ltI ha hb).mpr q; omega))
theorem aw_leN {a b : Nat} {off : Int} {t : Nat} (hd : decode (aw_cc M) pc = .ok (.if_icmp .le off, 3)) (ht : (pc : Int) + off = (t : Int)) (ha : a < 2 ^ 31) (hb : b < 2 ^ 31) (kt : a ≤ b → AW G M N0 d mc ms Q Ω I J k n lv t st) (kf : b < a → AW G M N0 d mc ms Q Ω I J k n lv (pc + 3) st) : AW G M N0 d mc ms Q Ω I J k n lv pc (.int (nI b) :: .int (nI a) :: st) :=
  aw_icmp_le hd ht (fun q => kt ((nI_leI ha hb).mp q)) (fun q => kf (by have := mt (nI_leI ha hb).mpr q; omega))
theorem aw_eqN {a b : Nat} {off : Int} {t : Nat} (hd : decode (aw_cc M) pc = .ok (.if_icmp .eq off, 3)) (ht : (pc : Int) + off = (t : Int)) (ha : a < 2 ^ 31) (hb : b < 2 ^ 31) (kt : a = b → AW G M N0 d mc ms Q Ω I J k n lv t st) (kf : a ≠ b → AW G M N0 d mc ms Q Ω I J k n lv (pc + 3) st) : AW G M N0 d mc ms Q Ω I J k n lv pc (.int (nI b) :: .int (nI a) :: st) :=
  aw_icmp_eq hd ht (fun q => kt ((nI_eq ha hb).mp q)) (fun q => kf (fun e => q ((nI_eq ha hb).mpr e)))
theorem aw_neN {a b : Nat} {off : Int} {t : Nat} (hd : decode (aw_cc M) pc = .ok (.if_icmp .ne off, 3)) (ht : (pc : Int) + off = (t : Int)) (ha : a < 2 ^ 31) (hb : b < 2 ^ 31) (kt : a ≠ b → AW G M N0 d mc ms Q Ω I J k n lv t st) (kf : a = b → AW G M N0 d mc ms Q Ω I J k n lv (pc + 3) st) : AW G M N0 d mc ms Q Ω I J k n lv pc (.int (nI b) :: .int (nI a) :: st) :=
  aw_icmp_ne hd ht (fun q => kt (fun e => q ((nI_eq ha hb).mpr e))) (fun q => kf ((nI_eq ha hb).mp q))
theorem aw_tabIn {x : Int32} {dflt lo hi : Int} {offs : Array Int} {len : Nat} {off : Int} {t : Nat} (hd : decode (aw_cc M) pc = .ok (.tableswitch dflt lo hi offs, len)) (h1 : ¬ x.toInt < lo) (h2 : ¬ hi < x.toInt) (ho : offs[(x.toInt - lo).toNat]? = some off) (ht : (pc : Int) + off = (t : Int)) (kk : AW G M N0 d mc ms Q Ω I J k n lv t st) : AW G M N0 d mc ms Q Ω I J k n lv pc (.int x :: st) := by
  intro p e R s m args below meth c H locs ls Z hF hl hR hS hE
  exact lv_tableIn hF.1 hF.2.1 hd h1 h2 ho ht (kk p e R s m args below meth c H locs ls Z hF hl hR hS hE)
theorem aw_tabOut {x : Int32} {dflt lo hi : Int} {offs : Array Int} {len : Nat} {t : Nat} (hd : decode (aw_cc M) pc = .ok (.tableswitch dflt lo hi offs, len)) (h : x.toInt < lo ∨ hi < x.toInt) (ht : (pc : Int) + dflt = (t : Int)) (kk : AW G M N0 d mc ms Q Ω I J k n lv t st) : AW G M N0 d mc ms Q Ω I J k n lv pc (.int x :: st) := by
  intro p e R s m args below meth c H locs ls Z hF hl hR hS hE
  exact lv_tableOut hF.1 hF.2.1 hd h ht (kk p e R s m args below meth c H locs ls Z hF hl hR hS hE)
theorem aw_lookup {x : Int32} {dflt : Int} {ps : Array (Int × Int)} {len : Nat} {off : Int} {t : Nat} (hd : decode (aw_cc M) pc = .ok (.lookupswitch dflt ps, len)) (hp : (ps.toList.zip (ps.toList.drop 1)).all (fun (a, next) => a.1 < next.1) = true) (ho : Op.lookupswitch.offset ps.toList dflt x.toInt = off) (ht : (pc : Int) + off = (t : Int)) (kk : AW G M N0 d mc ms Q Ω I J k n lv t st) : AW G M N0 d mc ms Q Ω I J k n lv pc (.int x :: st) := by
  intro p e R s m args below meth c H locs ls Z hF hl hR hS hE
  exact lv_lookup hF.1 hF.2.1 hd hp ho ht (kk p e R s m args below meth c H locs ls Z hF hl hR hS hE)
/-- a class's code names System.arraycopy -/
def aw_LC (own : String) (idx : Nat) : Prop := Cond.methodLink own idx arraycopyName ∈ aw_tbl ∧ Cond.native arraycopyName ∈ aw_tbl ∧ Cond.static arraycopyName ∈ aw_tbl ∧ Cond.initialized "java/lang/System" ∈ aw_tbl
theorem aw_copyI {idx i i2 N N2 sp dp c0 : Nat} {x y z : Int32} (hd : decode (aw_cc M) pc = .ok (.invokestatic idx, 3)) (hl : aw_LC (aw_y M).cls idx) (hi : aw_is Ω i (.inr (0, N))) (hi2 : aw_is Ω i2 (.inr (0, N2))) (hx : x = nI sp) (hy : y = nI dp) (hz : z = nI c0) (h4 : sp + c0 ≤ N) (h5 : dp + c0 ≤ N2) (hw : (st.map fun v => v.category).sum ≤ 8) (hdd : 2 ≤ d) (hN0 : aw_nx Ω = N0 + k) (kk : AW G M N0 d mc ms Q Ω (aw_cp I i i2 sp dp c0) J k n lv (pc + 3) st) (hN : N ≤ 1000 := by decide) (hN2 : N2 ≤ 1000 := by decide) : AW G M N0 d mc ms Q Ω I J k n lv pc (.int z :: .int y :: .ref (aw_ad G i2) :: .int x :: .ref (aw_ad G i) :: st) := by
  intro p e R s m args below meth c H locs ls Z hF hL hR hS hE
  have hFx := hF
  obtain ⟨hxx, hb, hr, hlk, hml, hown, hts, hK, hnm, hfr, hlo, hmc, hms, hsz, hsc⟩ := hF
  subst hx
  subst hy
  subst hz
  have q1 : (nI sp).toNatClampNeg = sp := nI_clamp (by omega)
  have q2 : (nI dp).toNatClampNeg = dp := nI_clamp (by omega)
  have q3 : (nI c0).toNatClampNeg = c0 := nI_clamp (by omega)
  have hp1 : ¬ nI sp < 0 := nI_pos (by omega)
  have hp2 : ¬ nI dp < 0 := nI_pos (by omega)
  have hp3 : ¬ nI c0 < 0 := nI_pos (by omega)
  have hnf : nativeFrameWords "java/lang/System" "arraycopy" 5 ≤ 60 := by decide +kernel
  have hfr1 : 1 ≤ R.frames := by omega
  have hlo1 : (st.map fun v => v.category).sum + (nativeFrameWords "java/lang/System" "arraycopy" 5 + 11) ≤ R.locals := by omega
  refine va_copyi hxx hb (hml.trans hL.1.symm) hown (hts _ hl.1) (hts _ hl.2.1) (hts _ hl.2.2.1) (hts _ hl.2.2.2) hK.1 hR.1 aw_Dd hS i i2 0 0 (aw_E_int hi) (aw_E_int hi2) rfl rfl rfl hp1 hp2 hp3 (by rw [q1, q3]; exact h4) (by rw [q2, q3]; exact h5) (fun _ _ => rfl) hfr1 hlo1 hd (fun H1 locs1 hP1 hD1 hS1 => ?_)
  rw [q1, q2, q3] at hP1
  have e1 : (aw_ws G Ω I J).set i2 (aw_ad G i2, .inl (aw_cI G, N2, .inl (va_cpy (I i) (I i2) sp dp c0))) = aw_ws G Ω (aw_cp I i i2 sp dp c0) J := by
    refine aw_set ?_ (fun j' hj' => aw_E_cong (aw_cp_off I hj') rfl)
    simp only [aw_E, hi2.2]
    congr 4
    funext q
    simp [aw_cp, va_cpy]
  rw [e1] at hP1
  intro T2 hT2 X
  exact kk p e R s m args below meth c H1 locs1 ls Z hFx hL ⟨hP1, aw_sz X hT2 hsz hN0 hS1.1 hP1⟩ hS1 hE T2 hT2 X
theorem aw_copyJ {idx i i2 N N2 sp dp c0 : Nat} {x y z : Int32} (hd : decode (aw_cc M) pc = .ok (.invokestatic idx, 3)) (hl : aw_LC (aw_y M).cls idx) (hi : aw_is Ω i (.inr (1, N))) (hi2 : aw_is Ω i2 (.inr (1, N2))) (hx : x = nI sp) (hy : y = nI dp) (hz : z = nI c0) (h4 : sp + c0 ≤ N) (h5 : dp + c0 ≤ N2) (hw : (st.map fun v => v.category).sum ≤ 8) (hdd : 2 ≤ d) (hN0 : aw_nx Ω = N0 + k) (kk : AW G M N0 d mc ms Q Ω I (aw_cp J i i2 sp dp c0) k n lv (pc + 3) st) (hN : N ≤ 1000 := by decide) (hN2 : N2 ≤ 1000 := by decide) : AW G M N0 d mc ms Q Ω I J k n lv pc (.int z :: .int y :: .ref (aw_ad G i2) :: .int x :: .ref (aw_ad G i) :: st) := by
  intro p e R s m args below meth c H locs ls Z hF hL hR hS hE
  have hFx := hF
  obtain ⟨hxx, hb, hr, hlk, hml, hown, hts, hK, hnm, hfr, hlo, hmc, hms, hsz, hsc⟩ := hF
  subst hx
  subst hy
  subst hz
  have q1 : (nI sp).toNatClampNeg = sp := nI_clamp (by omega)
  have q2 : (nI dp).toNatClampNeg = dp := nI_clamp (by omega)
  have q3 : (nI c0).toNatClampNeg = c0 := nI_clamp (by omega)
  have hp1 : ¬ nI sp < 0 := nI_pos (by omega)
  have hp2 : ¬ nI dp < 0 := nI_pos (by omega)
  have hp3 : ¬ nI c0 < 0 := nI_pos (by omega)
  have hnf : nativeFrameWords "java/lang/System" "arraycopy" 5 ≤ 60 := by decide +kernel
  have hfr1 : 1 ≤ R.frames := by omega
  have hlo1 : (st.map fun v => v.category).sum + (nativeFrameWords "java/lang/System" "arraycopy" 5 + 11) ≤ R.locals := by omega
  refine va_copyl hxx hb (hml.trans hL.1.symm) hown (hts _ hl.1) (hts _ hl.2.1) (hts _ hl.2.2.1) (hts _ hl.2.2.2) hK.1 hR.1 aw_Dd hS i i2 1 1 (aw_E_lng hi) (aw_E_lng hi2) rfl rfl rfl hp1 hp2 hp3 (by rw [q1, q3]; exact h4) (by rw [q2, q3]; exact h5) (fun _ _ => rfl) hfr1 hlo1 hd (fun H1 locs1 hP1 hD1 hS1 => ?_)
  rw [q1, q2, q3] at hP1
  have e1 : (aw_ws G Ω I J).set i2 (aw_ad G i2, .inl (aw_cJ G, N2, .inr (.inl (va_cpy (J i) (J i2) sp dp c0)))) = aw_ws G Ω I (aw_cp J i i2 sp dp c0) := by
    refine aw_set ?_ (fun j' hj' => aw_E_cong rfl (aw_cp_off J hj'))
    simp only [aw_E, hi2.2]
    congr 5
    funext q
    simp [aw_cp, va_cpy]
  rw [e1] at hP1
  intro T2 hT2 X
  exact kk p e R s m args below meth c H1 locs1 ls Z hFx hL ⟨hP1, aw_sz X hT2 hsz hN0 hS1.1 hP1⟩ hS1 hE T2 hT2 X
end AWT
end
section
/-! THE WORLD: where each object lies, by number (printed by my program gen_world.py) -/
def aw_bowl (Ω : aw_O) (b : Nat) : Prop := aw_is Ω b (.inl 1) ∧ aw_P Ω b 3 = some (b + 1) ∧ aw_is Ω (b + 1) (.inr (0, 9)) ∧ aw_P Ω b 4 = some (b + 2) ∧ aw_is Ω (b + 2) (.inr (0, 3)) ∧ aw_P Ω b 5 = some (b + 3) ∧ aw_is Ω (b + 3) (.inr (0, 6)) ∧ aw_P Ω b 6 = some (b + 4) ∧ aw_is Ω (b + 4) (.inr (0, 6)) ∧ aw_P Ω b 7 = some (b + 5) ∧ aw_is Ω (b + 5) (.inr (0, 6)) ∧ aw_P Ω b 8 = some (b + 6) ∧ aw_is Ω (b + 6) (.inr (0, 18))
theorem aw_bowl.o {Ω : aw_O} {b : Nat} (h : aw_bowl Ω b) : aw_is Ω b (.inl 1) := h.1
theorem aw_bowl.p3 {Ω : aw_O} {b : Nat} (h : aw_bowl Ω b) : aw_P Ω b 3 = some (b + 1) := h.2.1
theorem aw_bowl.s3 {Ω : aw_O} {b : Nat} (h : aw_bowl Ω b) : aw_is Ω (b + 1) (.inr (0, 9)) := h.2.2.1
theorem aw_bowl.p4 {Ω : aw_O} {b : Nat} (h : aw_bowl Ω b) : aw_P Ω b 4 = some (b + 2) := h.2.2.2.1
theorem aw_bowl.s4 {Ω : aw_O} {b : Nat} (h : aw_bowl Ω b) : aw_is Ω (b + 2) (.inr (0, 3)) := h.2.2.2.2.1
theorem aw_bowl.p5 {Ω : aw_O} {b : Nat} (h : aw_bowl Ω b) : aw_P Ω b 5 = some (b + 3) := h.2.2.2.2.2.1
theorem aw_bowl.s5 {Ω : aw_O} {b : Nat} (h : aw_bowl Ω b) : aw_is Ω (b + 3) (.inr (0, 6)) := h.2.2.2.2.2.2.1
theorem aw_bowl.p6 {Ω : aw_O} {b : Nat} (h : aw_bowl Ω b) : aw_P Ω b 6 = some (b + 4) := h.2.2.2.2.2.2.2.1
theorem aw_bowl.s6 {Ω : aw_O} {b : Nat} (h : aw_bowl Ω b) : aw_is Ω (b + 4) (.inr (0, 6)) := h.2.2.2.2.2.2.2.2.1
theorem aw_bowl.p7 {Ω : aw_O} {b : Nat} (h : aw_bowl Ω b) : aw_P Ω b 7 = some (b + 5) := h.2.2.2.2.2.2.2.2.2.1
theorem aw_bowl.s7 {Ω : aw_O} {b : Nat} (h : aw_bowl Ω b) : aw_is Ω (b + 5) (.inr (0, 6)) := h.2.2.2.2.2.2.2.2.2.2.1
theorem aw_bowl.p8 {Ω : aw_O} {b : Nat} (h : aw_bowl Ω b) : aw_P Ω b 8 = some (b + 6) := h.2.2.2.2.2.2.2.2.2.2.2.1
theorem aw_bowl.s8 {Ω : aw_O} {b : Nat} (h : aw_bowl Ω b) : aw_is Ω (b + 6) (.inr (0, 18)) := h.2.2.2.2.2.2.2.2.2.2.2.2
def aw_point (Ω : aw_O) (b : Nat) : Prop := aw_is Ω b (.inl 3) ∧ aw_P Ω b 0 = some (b + 1) ∧ aw_is Ω (b + 1) (.inr (1, 3)) ∧ aw_P Ω b 1 = some (b + 2) ∧ aw_is Ω (b + 2) (.inr (1, 6))
theorem aw_point.o {Ω : aw_O} {b : Nat} (h : aw_point Ω b) : aw_is Ω b (.inl 3) := h.1
theorem aw_point.p0 {Ω : aw_O} {b : Nat} (h : aw_point Ω b) : aw_P Ω b 0 = some (b + 1) := h.2.1
theorem aw_point.s0 {Ω : aw_O} {b : Nat} (h : aw_point Ω b) : aw_is Ω (b + 1) (.inr (1, 3)) := h.2.2.1
theorem aw_point.p1 {Ω : aw_O} {b : Nat} (h : aw_point Ω b) : aw_P Ω b 1 = some (b + 2) := h.2.2.2.1
theorem aw_point.s1 {Ω : aw_O} {b : Nat} (h : aw_point Ω b) : aw_is Ω (b + 2) (.inr (1, 6)) := h.2.2.2.2
def aw_sheets (Ω : aw_O) (b : Nat) : Prop := aw_is Ω b (.inl 4) ∧ aw_P Ω b 0 = some (b + 1) ∧ aw_is Ω (b + 1) (.inr (0, 4)) ∧ aw_P Ω b 1 = some (b + 2) ∧ aw_is Ω (b + 2) (.inr (0, 4)) ∧ aw_P Ω b 2 = some (b + 3) ∧ aw_is Ω (b + 3) (.inr (1, 48))
theorem aw_sheets.o {Ω : aw_O} {b : Nat} (h : aw_sheets Ω b) : aw_is Ω b (.inl 4) := h.1
theorem aw_sheets.p0 {Ω : aw_O} {b : Nat} (h : aw_sheets Ω b) : aw_P Ω b 0 = some (b + 1) := h.2.1
theorem aw_sheets.s0 {Ω : aw_O} {b : Nat} (h : aw_sheets Ω b) : aw_is Ω (b + 1) (.inr (0, 4)) := h.2.2.1
theorem aw_sheets.p1 {Ω : aw_O} {b : Nat} (h : aw_sheets Ω b) : aw_P Ω b 1 = some (b + 2) := h.2.2.2.1
theorem aw_sheets.s1 {Ω : aw_O} {b : Nat} (h : aw_sheets Ω b) : aw_is Ω (b + 2) (.inr (0, 4)) := h.2.2.2.2.1
theorem aw_sheets.p2 {Ω : aw_O} {b : Nat} (h : aw_sheets Ω b) : aw_P Ω b 2 = some (b + 3) := h.2.2.2.2.2.1
theorem aw_sheets.s2 {Ω : aw_O} {b : Nat} (h : aw_sheets Ω b) : aw_is Ω (b + 3) (.inr (1, 48)) := h.2.2.2.2.2.2
def aw_book (Ω : aw_O) (b : Nat) : Prop := aw_is Ω b (.inl 0)
theorem aw_book.o {Ω : aw_O} {b : Nat} (h : aw_book Ω b) : aw_is Ω b (.inl 0) := h
def aw_solver (Ω : aw_O) (b : Nat) (c : Nat) : Prop := aw_is Ω b (.inl 5) ∧ aw_P Ω b 0 = some (c) ∧ aw_bowl Ω (c) ∧ aw_P Ω b 1 = some (b + 1) ∧ aw_point Ω (b + 1) ∧ aw_P Ω b 2 = some (b + 4) ∧ aw_point Ω (b + 4) ∧ aw_P Ω b 3 = some (b + 7) ∧ aw_is Ω (b + 7) (.inr (0, 64)) ∧ aw_P Ω b 7 = some (b + 8) ∧ aw_is Ω (b + 8) (.inr (2, 6)) ∧ aw_P Ω b 8 = some (b + 15) ∧ aw_is Ω (b + 15) (.inr (0, 3)) ∧ aw_P Ω b 9 = some (b + 16) ∧ aw_is Ω (b + 16) (.inr (0, 41)) ∧ ∀ j, j < 6 → aw_P Ω (b + 8) j = some (b + 9 + j) ∧ aw_is Ω (b + 9 + j) (.inr (1, 8))
theorem aw_solver.o {Ω : aw_O} {b : Nat} {c : Nat} (h : aw_solver Ω b c) : aw_is Ω b (.inl 5) := h.1
theorem aw_solver.p0 {Ω : aw_O} {b : Nat} {c : Nat} (h : aw_solver Ω b c) : aw_P Ω b 0 = some (c) := h.2.1
theorem aw_solver.q0 {Ω : aw_O} {b : Nat} {c : Nat} (h : aw_solver Ω b c) : aw_bowl Ω (c) := h.2.2.1
theorem aw_solver.p1 {Ω : aw_O} {b : Nat} {c : Nat} (h : aw_solver Ω b c) : aw_P Ω b 1 = some (b + 1) := h.2.2.2.1
theorem aw_solver.q1 {Ω : aw_O} {b : Nat} {c : Nat} (h : aw_solver Ω b c) : aw_point Ω (b + 1) := h.2.2.2.2.1
theorem aw_solver.p2 {Ω : aw_O} {b : Nat} {c : Nat} (h : aw_solver Ω b c) : aw_P Ω b 2 = some (b + 4) := h.2.2.2.2.2.1
theorem aw_solver.q2 {Ω : aw_O} {b : Nat} {c : Nat} (h : aw_solver Ω b c) : aw_point Ω (b + 4) := h.2.2.2.2.2.2.1
theorem aw_solver.p3 {Ω : aw_O} {b : Nat} {c : Nat} (h : aw_solver Ω b c) : aw_P Ω b 3 = some (b + 7) := h.2.2.2.2.2.2.2.1
theorem aw_solver.s3 {Ω : aw_O} {b : Nat} {c : Nat} (h : aw_solver Ω b c) : aw_is Ω (b + 7) (.inr (0, 64)) := h.2.2.2.2.2.2.2.2.1
theorem aw_solver.p7 {Ω : aw_O} {b : Nat} {c : Nat} (h : aw_solver Ω b c) : aw_P Ω b 7 = some (b + 8) := h.2.2.2.2.2.2.2.2.2.1
theorem aw_solver.s7 {Ω : aw_O} {b : Nat} {c : Nat} (h : aw_solver Ω b c) : aw_is Ω (b + 8) (.inr (2, 6)) := h.2.2.2.2.2.2.2.2.2.2.1
theorem aw_solver.p8 {Ω : aw_O} {b : Nat} {c : Nat} (h : aw_solver Ω b c) : aw_P Ω b 8 = some (b + 15) := h.2.2.2.2.2.2.2.2.2.2.2.1
theorem aw_solver.s8 {Ω : aw_O} {b : Nat} {c : Nat} (h : aw_solver Ω b c) : aw_is Ω (b + 15) (.inr (0, 3)) := h.2.2.2.2.2.2.2.2.2.2.2.2.1
theorem aw_solver.p9 {Ω : aw_O} {b : Nat} {c : Nat} (h : aw_solver Ω b c) : aw_P Ω b 9 = some (b + 16) := h.2.2.2.2.2.2.2.2.2.2.2.2.2.1
theorem aw_solver.s9 {Ω : aw_O} {b : Nat} {c : Nat} (h : aw_solver Ω b c) : aw_is Ω (b + 16) (.inr (0, 41)) := h.2.2.2.2.2.2.2.2.2.2.2.2.2.2.1
theorem aw_solver.r {Ω : aw_O} {b : Nat} {c : Nat} (h : aw_solver Ω b c) : ∀ j, j < 6 → aw_P Ω (b + 8) j = some (b + 9 + j) ∧ aw_is Ω (b + 9 + j) (.inr (1, 8)) := h.2.2.2.2.2.2.2.2.2.2.2.2.2.2.2
def aw_cert (Ω : aw_O) (b : Nat) (c : Nat) : Prop := aw_is Ω b (.inl 2) ∧ aw_P Ω b 0 = some (c) ∧ aw_bowl Ω (c) ∧ aw_P Ω b 1 = some (b + 1) ∧ aw_point Ω (b + 1)
theorem aw_cert.o {Ω : aw_O} {b : Nat} {c : Nat} (h : aw_cert Ω b c) : aw_is Ω b (.inl 2) := h.1
theorem aw_cert.p0 {Ω : aw_O} {b : Nat} {c : Nat} (h : aw_cert Ω b c) : aw_P Ω b 0 = some (c) := h.2.1
theorem aw_cert.q0 {Ω : aw_O} {b : Nat} {c : Nat} (h : aw_cert Ω b c) : aw_bowl Ω (c) := h.2.2.1
theorem aw_cert.p1 {Ω : aw_O} {b : Nat} {c : Nat} (h : aw_cert Ω b c) : aw_P Ω b 1 = some (b + 1) := h.2.2.2.1
theorem aw_cert.q1 {Ω : aw_O} {b : Nat} {c : Nat} (h : aw_cert Ω b c) : aw_point Ω (b + 1) := h.2.2.2.2
def aw_main (Ω : aw_O) (b : Nat) : Prop := aw_is Ω b (.inl 6) ∧ aw_P Ω b 0 = some (b + 1) ∧ aw_bowl Ω (b + 1) ∧ aw_P Ω b 1 = some (b + 8) ∧ aw_bowl Ω (b + 8) ∧ aw_P Ω b 2 = some (b + 15) ∧ aw_bowl Ω (b + 15) ∧ aw_P Ω b 3 = some (b + 22) ∧ aw_solver Ω (b + 22) (b + 1) ∧ aw_P Ω b 4 = some (b + 39) ∧ aw_solver Ω (b + 39) (b + 15) ∧ aw_P Ω b 5 = some (b + 56) ∧ aw_sheets Ω (b + 56) ∧ aw_P Ω b 6 = some (b + 60) ∧ aw_cert Ω (b + 60) (b + 1) ∧ aw_P Ω b 7 = some (b + 64) ∧ aw_book Ω (b + 64)
theorem aw_main.o {Ω : aw_O} {b : Nat} (h : aw_main Ω b) : aw_is Ω b (.inl 6) := h.1
theorem aw_main.p0 {Ω : aw_O} {b : Nat} (h : aw_main Ω b) : aw_P Ω b 0 = some (b + 1) := h.2.1
theorem aw_main.q0 {Ω : aw_O} {b : Nat} (h : aw_main Ω b) : aw_bowl Ω (b + 1) := h.2.2.1
theorem aw_main.p1 {Ω : aw_O} {b : Nat} (h : aw_main Ω b) : aw_P Ω b 1 = some (b + 8) := h.2.2.2.1
theorem aw_main.q1 {Ω : aw_O} {b : Nat} (h : aw_main Ω b) : aw_bowl Ω (b + 8) := h.2.2.2.2.1
theorem aw_main.p2 {Ω : aw_O} {b : Nat} (h : aw_main Ω b) : aw_P Ω b 2 = some (b + 15) := h.2.2.2.2.2.1
theorem aw_main.q2 {Ω : aw_O} {b : Nat} (h : aw_main Ω b) : aw_bowl Ω (b + 15) := h.2.2.2.2.2.2.1
theorem aw_main.p3 {Ω : aw_O} {b : Nat} (h : aw_main Ω b) : aw_P Ω b 3 = some (b + 22) := h.2.2.2.2.2.2.2.1
theorem aw_main.q3 {Ω : aw_O} {b : Nat} (h : aw_main Ω b) : aw_solver Ω (b + 22) (b + 1) := h.2.2.2.2.2.2.2.2.1
theorem aw_main.p4 {Ω : aw_O} {b : Nat} (h : aw_main Ω b) : aw_P Ω b 4 = some (b + 39) := h.2.2.2.2.2.2.2.2.2.1
theorem aw_main.q4 {Ω : aw_O} {b : Nat} (h : aw_main Ω b) : aw_solver Ω (b + 39) (b + 15) := h.2.2.2.2.2.2.2.2.2.2.1
theorem aw_main.p5 {Ω : aw_O} {b : Nat} (h : aw_main Ω b) : aw_P Ω b 5 = some (b + 56) := h.2.2.2.2.2.2.2.2.2.2.2.1
theorem aw_main.q5 {Ω : aw_O} {b : Nat} (h : aw_main Ω b) : aw_sheets Ω (b + 56) := h.2.2.2.2.2.2.2.2.2.2.2.2.1
theorem aw_main.p6 {Ω : aw_O} {b : Nat} (h : aw_main Ω b) : aw_P Ω b 6 = some (b + 60) := h.2.2.2.2.2.2.2.2.2.2.2.2.2.1
theorem aw_main.q6 {Ω : aw_O} {b : Nat} (h : aw_main Ω b) : aw_cert Ω (b + 60) (b + 1) := h.2.2.2.2.2.2.2.2.2.2.2.2.2.2.1
theorem aw_main.p7 {Ω : aw_O} {b : Nat} (h : aw_main Ω b) : aw_P Ω b 7 = some (b + 64) := h.2.2.2.2.2.2.2.2.2.2.2.2.2.2.2.1
theorem aw_main.q7 {Ω : aw_O} {b : Nat} (h : aw_main Ω b) : aw_book Ω (b + 64) := h.2.2.2.2.2.2.2.2.2.2.2.2.2.2.2.2
def aw_model (Ω : aw_O) (b : Nat) : Prop := aw_is Ω b (.inl 7) ∧ aw_P Ω b 1 = some (b + 1) ∧ aw_is Ω (b + 1) (.inr (0, 9)) ∧ aw_P Ω b 2 = some (b + 2) ∧ aw_is Ω (b + 2) (.inr (0, 3)) ∧ aw_P Ω b 5 = some (b + 3) ∧ aw_is Ω (b + 3) (.inr (0, 36)) ∧ aw_P Ω b 7 = some (b + 4) ∧ aw_is Ω (b + 4) (.inr (0, 51)) ∧ aw_P Ω b 10 = some (b + 5) ∧ aw_is Ω (b + 5) (.inr (0, 8)) ∧ aw_P Ω b 14 = some (b + 6) ∧ aw_is Ω (b + 6) (.inr (1, 36)) ∧ aw_P Ω b 15 = some (b + 7) ∧ aw_is Ω (b + 7) (.inr (1, 64)) ∧ aw_P Ω b 16 = some (b + 8) ∧ aw_is Ω (b + 8) (.inr (1, 3)) ∧ aw_P Ω b 17 = some (b + 9) ∧ aw_is Ω (b + 9) (.inr (1, 6)) ∧ aw_P Ω b 19 = some (b + 10) ∧ aw_is Ω (b + 10) (.inr (1, 3)) ∧ aw_P Ω b 20 = some (b + 11) ∧ aw_is Ω (b + 11) (.inr (1, 6)) ∧ aw_P Ω b 21 = some (b + 12) ∧ aw_is Ω (b + 12) (.inr (0, 6)) ∧ aw_P Ω b 22 = some (b + 13) ∧ aw_is Ω (b + 13) (.inr (1, 6)) ∧ aw_P Ω b 23 = some (b + 14) ∧ aw_is Ω (b + 14) (.inr (0, 64)) ∧ aw_P Ω b 28 = some (b + 15) ∧ aw_is Ω (b + 15) (.inr (0, 12)) ∧ aw_P Ω b 30 = some (b + 16) ∧ aw_is Ω (b + 16) (.inr (0, 4)) ∧ aw_P Ω b 31 = some (b + 17) ∧ aw_is Ω (b + 17) (.inr (0, 4)) ∧ aw_P Ω b 32 = some (b + 18) ∧ aw_is Ω (b + 18) (.inr (1, 48))
theorem aw_model.o {Ω : aw_O} {b : Nat} (h : aw_model Ω b) : aw_is Ω b (.inl 7) := h.1
theorem aw_model.p1 {Ω : aw_O} {b : Nat} (h : aw_model Ω b) : aw_P Ω b 1 = some (b + 1) := h.2.1
theorem aw_model.s1 {Ω : aw_O} {b : Nat} (h : aw_model Ω b) : aw_is Ω (b + 1) (.inr (0, 9)) := h.2.2.1
theorem aw_model.p2 {Ω : aw_O} {b : Nat} (h : aw_model Ω b) : aw_P Ω b 2 = some (b + 2) := h.2.2.2.1
theorem aw_model.s2 {Ω : aw_O} {b : Nat} (h : aw_model Ω b) : aw_is Ω (b + 2) (.inr (0, 3)) := h.2.2.2.2.1
theorem aw_model.p5 {Ω : aw_O} {b : Nat} (h : aw_model Ω b) : aw_P Ω b 5 = some (b + 3) := h.2.2.2.2.2.1
theorem aw_model.s5 {Ω : aw_O} {b : Nat} (h : aw_model Ω b) : aw_is Ω (b + 3) (.inr (0, 36)) := h.2.2.2.2.2.2.1
theorem aw_model.p7 {Ω : aw_O} {b : Nat} (h : aw_model Ω b) : aw_P Ω b 7 = some (b + 4) := h.2.2.2.2.2.2.2.1
theorem aw_model.s7 {Ω : aw_O} {b : Nat} (h : aw_model Ω b) : aw_is Ω (b + 4) (.inr (0, 51)) := h.2.2.2.2.2.2.2.2.1
theorem aw_model.p10 {Ω : aw_O} {b : Nat} (h : aw_model Ω b) : aw_P Ω b 10 = some (b + 5) := h.2.2.2.2.2.2.2.2.2.1
theorem aw_model.s10 {Ω : aw_O} {b : Nat} (h : aw_model Ω b) : aw_is Ω (b + 5) (.inr (0, 8)) := h.2.2.2.2.2.2.2.2.2.2.1
theorem aw_model.p14 {Ω : aw_O} {b : Nat} (h : aw_model Ω b) : aw_P Ω b 14 = some (b + 6) := h.2.2.2.2.2.2.2.2.2.2.2.1
theorem aw_model.s14 {Ω : aw_O} {b : Nat} (h : aw_model Ω b) : aw_is Ω (b + 6) (.inr (1, 36)) := h.2.2.2.2.2.2.2.2.2.2.2.2.1
theorem aw_model.p15 {Ω : aw_O} {b : Nat} (h : aw_model Ω b) : aw_P Ω b 15 = some (b + 7) := h.2.2.2.2.2.2.2.2.2.2.2.2.2.1
theorem aw_model.s15 {Ω : aw_O} {b : Nat} (h : aw_model Ω b) : aw_is Ω (b + 7) (.inr (1, 64)) := h.2.2.2.2.2.2.2.2.2.2.2.2.2.2.1
theorem aw_model.p16 {Ω : aw_O} {b : Nat} (h : aw_model Ω b) : aw_P Ω b 16 = some (b + 8) := h.2.2.2.2.2.2.2.2.2.2.2.2.2.2.2.1
theorem aw_model.s16 {Ω : aw_O} {b : Nat} (h : aw_model Ω b) : aw_is Ω (b + 8) (.inr (1, 3)) := h.2.2.2.2.2.2.2.2.2.2.2.2.2.2.2.2.1
theorem aw_model.p17 {Ω : aw_O} {b : Nat} (h : aw_model Ω b) : aw_P Ω b 17 = some (b + 9) := h.2.2.2.2.2.2.2.2.2.2.2.2.2.2.2.2.2.1
theorem aw_model.s17 {Ω : aw_O} {b : Nat} (h : aw_model Ω b) : aw_is Ω (b + 9) (.inr (1, 6)) := h.2.2.2.2.2.2.2.2.2.2.2.2.2.2.2.2.2.2.1
theorem aw_model.p19 {Ω : aw_O} {b : Nat} (h : aw_model Ω b) : aw_P Ω b 19 = some (b + 10) := h.2.2.2.2.2.2.2.2.2.2.2.2.2.2.2.2.2.2.2.1
theorem aw_model.s19 {Ω : aw_O} {b : Nat} (h : aw_model Ω b) : aw_is Ω (b + 10) (.inr (1, 3)) := h.2.2.2.2.2.2.2.2.2.2.2.2.2.2.2.2.2.2.2.2.1
theorem aw_model.p20 {Ω : aw_O} {b : Nat} (h : aw_model Ω b) : aw_P Ω b 20 = some (b + 11) := h.2.2.2.2.2.2.2.2.2.2.2.2.2.2.2.2.2.2.2.2.2.1
theorem aw_model.s20 {Ω : aw_O} {b : Nat} (h : aw_model Ω b) : aw_is Ω (b + 11) (.inr (1, 6)) := h.2.2.2.2.2.2.2.2.2.2.2.2.2.2.2.2.2.2.2.2.2.2.1
theorem aw_model.p21 {Ω : aw_O} {b : Nat} (h : aw_model Ω b) : aw_P Ω b 21 = some (b + 12) := h.2.2.2.2.2.2.2.2.2.2.2.2.2.2.2.2.2.2.2.2.2.2.2.1
theorem aw_model.s21 {Ω : aw_O} {b : Nat} (h : aw_model Ω b) : aw_is Ω (b + 12) (.inr (0, 6)) := h.2.2.2.2.2.2.2.2.2.2.2.2.2.2.2.2.2.2.2.2.2.2.2.2.1
theorem aw_model.p22 {Ω : aw_O} {b : Nat} (h : aw_model Ω b) : aw_P Ω b 22 = some (b + 13) := h.2.2.2.2.2.2.2.2.2.2.2.2.2.2.2.2.2.2.2.2.2.2.2.2.2.1
theorem aw_model.s22 {Ω : aw_O} {b : Nat} (h : aw_model Ω b) : aw_is Ω (b + 13) (.inr (1, 6)) := h.2.2.2.2.2.2.2.2.2.2.2.2.2.2.2.2.2.2.2.2.2.2.2.2.2.2.1
theorem aw_model.p23 {Ω : aw_O} {b : Nat} (h : aw_model Ω b) : aw_P Ω b 23 = some (b + 14) := h.2.2.2.2.2.2.2.2.2.2.2.2.2.2.2.2.2.2.2.2.2.2.2.2.2.2.2.1
theorem aw_model.s23 {Ω : aw_O} {b : Nat} (h : aw_model Ω b) : aw_is Ω (b + 14) (.inr (0, 64)) := h.2.2.2.2.2.2.2.2.2.2.2.2.2.2.2.2.2.2.2.2.2.2.2.2.2.2.2.2.1
theorem aw_model.p28 {Ω : aw_O} {b : Nat} (h : aw_model Ω b) : aw_P Ω b 28 = some (b + 15) := h.2.2.2.2.2.2.2.2.2.2.2.2.2.2.2.2.2.2.2.2.2.2.2.2.2.2.2.2.2.1
theorem aw_model.s28 {Ω : aw_O} {b : Nat} (h : aw_model Ω b) : aw_is Ω (b + 15) (.inr (0, 12)) := h.2.2.2.2.2.2.2.2.2.2.2.2.2.2.2.2.2.2.2.2.2.2.2.2.2.2.2.2.2.2.1
theorem aw_model.p30 {Ω : aw_O} {b : Nat} (h : aw_model Ω b) : aw_P Ω b 30 = some (b + 16) := h.2.2.2.2.2.2.2.2.2.2.2.2.2.2.2.2.2.2.2.2.2.2.2.2.2.2.2.2.2.2.2.1
theorem aw_model.s30 {Ω : aw_O} {b : Nat} (h : aw_model Ω b) : aw_is Ω (b + 16) (.inr (0, 4)) := h.2.2.2.2.2.2.2.2.2.2.2.2.2.2.2.2.2.2.2.2.2.2.2.2.2.2.2.2.2.2.2.2.1
theorem aw_model.p31 {Ω : aw_O} {b : Nat} (h : aw_model Ω b) : aw_P Ω b 31 = some (b + 17) := h.2.2.2.2.2.2.2.2.2.2.2.2.2.2.2.2.2.2.2.2.2.2.2.2.2.2.2.2.2.2.2.2.2.1
theorem aw_model.s31 {Ω : aw_O} {b : Nat} (h : aw_model Ω b) : aw_is Ω (b + 17) (.inr (0, 4)) := h.2.2.2.2.2.2.2.2.2.2.2.2.2.2.2.2.2.2.2.2.2.2.2.2.2.2.2.2.2.2.2.2.2.2.1
theorem aw_model.p32 {Ω : aw_O} {b : Nat} (h : aw_model Ω b) : aw_P Ω b 32 = some (b + 18) := h.2.2.2.2.2.2.2.2.2.2.2.2.2.2.2.2.2.2.2.2.2.2.2.2.2.2.2.2.2.2.2.2.2.2.2.1
theorem aw_model.s32 {Ω : aw_O} {b : Nat} (h : aw_model Ω b) : aw_is Ω (b + 18) (.inr (1, 48)) := h.2.2.2.2.2.2.2.2.2.2.2.2.2.2.2.2.2.2.2.2.2.2.2.2.2.2.2.2.2.2.2.2.2.2.2.2
end
section
/-! THE BOWL's methods -/
def sp_row (kd a : Int32) : Int32 := if kd = nI 1 then -a else if kd = nI 4 then -a else if kd = nI 3 then nI 2 * a else a
def sp_bnd (kd e : Int32) : Int32 := if kd = nI 1 then -e else if kd = nI 4 then -e - nI 1 else e
def sp_on (kd : Int32) : Int32 := if kd = nI 2 then nI 1 else nI 0
def sp_held (kd : Int32) (v : Int64) : Int32 := if kd = nI 2 then (if v = 0 then nI 1 else nI 0) else if 0 ≤ v then nI 1 else nI 0
theorem sw_14 {x : Int32} (h1 : ¬ x = nI 1) (h2 : ¬ x = nI 2) (h3 : ¬ x = nI 3) (h4 : ¬ x = nI 4) : x.toInt < 1 ∨ 4 < x.toInt := by
  have e1 : ¬ x.toInt = 1 := fun e => h1 (Int32.toInt_inj.mp (by rw [e]; decide))
  have e2 : ¬ x.toInt = 2 := fun e => h2 (Int32.toInt_inj.mp (by rw [e]; decide))
  have e3 : ¬ x.toInt = 3 := fun e => h3 (Int32.toInt_inj.mp (by rw [e]; decide))
  have e4 : ¬ x.toInt = 4 := fun e => h4 (Int32.toInt_inj.mp (by rw [e]; decide))
  omega
theorem lcmp0 {x : Int64} : lg_cmp x 0 = 0 ↔ x = 0 := by
  unfold lg_cmp
  by_cases h : x > 0
  · rw [if_pos h]
    exact ⟨fun q => absurd q (by decide), fun q => absurd h (by rw [q]; decide)⟩
  · rw [if_neg h]
    by_cases h2 : x = 0
    · rw [if_pos h2]
      exact ⟨fun _ => h2, fun _ => rfl⟩
    · rw [if_neg h2]
      exact ⟨fun q => absurd q (by decide), fun q => absurd q h2⟩
theorem lcmpL {x y : Int64} : lg_cmp x y < 0 ↔ x < y := by
  unfold lg_cmp
  by_cases h : x > y
  · rw [if_pos h]
    refine ⟨fun q => absurd q (by decide), fun q => ?_⟩
    have h1 := Int64.lt_iff_toInt_lt.mp q
    have h2 := Int64.lt_iff_toInt_lt.mp h
    omega
  · rw [if_neg h]
    by_cases h2 : x = y
    · rw [if_pos h2]
      subst h2
      refine ⟨fun q => absurd q (by decide), fun q => ?_⟩
      have h1 := Int64.lt_iff_toInt_lt.mp q
      omega
    · rw [if_neg h2]
      refine ⟨fun _ => ?_, fun _ => by decide⟩
      apply Int64.lt_iff_toInt_lt.mpr
      have h3 : ¬ y.toInt < x.toInt := fun q => h (Int64.lt_iff_toInt_lt.mpr q)
      have h4 : ¬ x.toInt = y.toInt := fun q => h2 (Int64.toInt_inj.mp q)
      omega

theorem tX1_bendOf {G : aw_G} {d : Nat} {Ω : aw_O} {I : aw_MI} {J : aw_MJ} {Q : Int32 → aw_O → aw_MI → aw_MJ → Prop} {b i j : Nat} (hB : aw_bowl Ω b) (hi : i < 3) (hj : j < 3) (hQ : Q (I (b + 1) (i * 3 + j)) Ω I J) : aw_Call G MX1_bendOf d 0 0 [.ref (aw_ad G b), .int (nI i), .int (nI j)] Ω I J (aw_QI Q) := by
  refine aw_enter (by decide) rfl (Nat.le_of_ble_eq_true rfl) ?_
  show AW G MX1_bendOf (aw_nx Ω) d 0 0 (aw_QI Q) Ω I J 0 0 [.ref (aw_ad G b), .int (nI i), .int (nI j)] 0 []
  refine aw_aload_n dX1_bendOf_0 rfl ?_
  refine aw_getR dX1_bendOf_1 flX1_15 hB.o hB.p3 ?_
  refine aw_iload_n dX1_bendOf_4 rfl ?_
  refine aw_iconst (v := nI 3) dX1_bendOf_5 (by decide) ?_
  refine aw_imulN dX1_bendOf_6 ?_
  refine aw_iload_n dX1_bendOf_7 rfl ?_
  refine aw_iaddN dX1_bendOf_8 ?_
  refine aw_iald dX1_bendOf_9 hB.s3 rfl (by omega) ?_
  exact aw_iret dX1_bendOf_10 rfl (hQ) (Nat.zero_le _) (Nat.zero_le _)
theorem tX1_rowOf {G : aw_G} {d : Nat} {Ω : aw_O} {I : aw_MI} {J : aw_MJ} {Q : Int32 → aw_O → aw_MI → aw_MJ → Prop} {b l i : Nat} (hB : aw_bowl Ω b) (hl : l < 6) (hi : i < 3) (hQ : Q (sp_row (I (b + 3) l) (I (b + 6) (l * 3 + i))) Ω I J) : aw_Call G MX1_rowOf d 0 0 [.ref (aw_ad G b), .int (nI l), .int (nI i)] Ω I J (aw_QI Q) := by
  refine aw_enter (by decide) rfl (Nat.le_of_ble_eq_true rfl) ?_
  show AW G MX1_rowOf (aw_nx Ω) d 0 0 (aw_QI Q) Ω I J 0 0 [.ref (aw_ad G b), .int (nI l), .int (nI i), .null] 0 []
  refine aw_aload_n dX1_rowOf_0 rfl ?_
  refine aw_getR dX1_rowOf_1 flX1_31 hB.o hB.p8 ?_
  refine aw_iload_n dX1_rowOf_4 rfl ?_
  refine aw_iconst (v := nI 3) dX1_rowOf_5 (by decide) ?_
  refine aw_imulN dX1_rowOf_6 ?_
  refine aw_iload_n dX1_rowOf_7 rfl ?_
  refine aw_iaddN dX1_rowOf_8 ?_
  refine aw_iald dX1_rowOf_9 hB.s8 rfl (by omega) ?_
  refine aw_istore_n dX1_rowOf_10 (by decide) ?_
  refine aw_aload_n dX1_rowOf_11 rfl ?_
  refine aw_getR dX1_rowOf_12 flX1_22 hB.o hB.p5 ?_
  refine aw_iload_n dX1_rowOf_15 rfl ?_
  refine aw_iald dX1_rowOf_16 hB.s5 rfl (by omega) ?_
  by_cases hk1 : I (b + 3) l = nI 1
  · refine aw_toI hk1 (aw_tabIn (off := 31) (t := 48) dX1_rowOf_17 (by decide) (by decide) (by decide) (by decide) ?_)
    refine aw_iload_n dX1_rowOf_48 rfl ?_
    refine aw_ineg dX1_rowOf_49 ?_
    exact aw_iret dX1_rowOf_50 rfl (by simp only [sp_row, *, if_true, if_false] at hQ; first | exact hQ | (rw [if_neg (by decide)] at hQ; first | exact hQ | (rw [if_neg (by decide)] at hQ; exact hQ))) (Nat.zero_le _) (Nat.zero_le _)
  by_cases hk4 : I (b + 3) l = nI 4
  · refine aw_toI hk4 (aw_tabIn (off := 31) (t := 48) dX1_rowOf_17 (by decide) (by decide) (by decide) (by decide) ?_)
    refine aw_iload_n dX1_rowOf_48 rfl ?_
    refine aw_ineg dX1_rowOf_49 ?_
    exact aw_iret dX1_rowOf_50 rfl (by simp only [sp_row, *, if_true, if_false] at hQ; first | exact hQ | (rw [if_neg (by decide)] at hQ; first | exact hQ | (rw [if_neg (by decide)] at hQ; exact hQ))) (Nat.zero_le _) (Nat.zero_le _)
  by_cases hk3 : I (b + 3) l = nI 3
  · refine aw_toI hk3 (aw_tabIn (off := 34) (t := 51) dX1_rowOf_17 (by decide) (by decide) (by decide) (by decide) ?_)
    refine aw_iconst (v := nI 2) dX1_rowOf_51 (by decide) ?_
    refine aw_iload_n dX1_rowOf_52 rfl ?_
    refine aw_imul dX1_rowOf_53 ?_
    exact aw_iret dX1_rowOf_54 rfl (by simp only [sp_row, *, if_true, if_false] at hQ; first | exact hQ | (rw [if_neg (by decide)] at hQ; first | exact hQ | (rw [if_neg (by decide)] at hQ; exact hQ))) (Nat.zero_le _) (Nat.zero_le _)
  by_cases hk2 : I (b + 3) l = nI 2
  · refine aw_toI hk2 (aw_tabIn (off := 38) (t := 55) dX1_rowOf_17 (by decide) (by decide) (by decide) (by decide) ?_)
    refine aw_iload_n dX1_rowOf_55 rfl ?_
    exact aw_iret dX1_rowOf_56 rfl (by simp only [sp_row, *, if_true, if_false] at hQ; first | exact hQ | (rw [if_neg (by decide)] at hQ; first | exact hQ | (rw [if_neg (by decide)] at hQ; exact hQ))) (Nat.zero_le _) (Nat.zero_le _)
  refine aw_tabOut (t := 55) dX1_rowOf_17 (sw_14 hk1 hk2 hk3 hk4) (by decide) ?_
  refine aw_iload_n dX1_rowOf_55 rfl ?_
  exact aw_iret dX1_rowOf_56 rfl (by simp only [sp_row, *, if_true, if_false] at hQ; first | exact hQ | (rw [if_neg (by decide)] at hQ; first | exact hQ | (rw [if_neg (by decide)] at hQ; exact hQ))) (Nat.zero_le _) (Nat.zero_le _)
theorem tX1_boundOf {G : aw_G} {d : Nat} {Ω : aw_O} {I : aw_MI} {J : aw_MJ} {Q : Int32 → aw_O → aw_MI → aw_MJ → Prop} {b l : Nat} {t : Int32} (hB : aw_bowl Ω b) (hl : l < 6) (hQ : Q (sp_bnd (I (b + 3) l) (I (b + 4) l + t * I (b + 5) l)) Ω I J) : aw_Call G MX1_boundOf d 0 0 [.ref (aw_ad G b), .int (nI l), .int t] Ω I J (aw_QI Q) := by
  refine aw_enter (by decide) rfl (Nat.le_of_ble_eq_true rfl) ?_
  show AW G MX1_boundOf (aw_nx Ω) d 0 0 (aw_QI Q) Ω I J 0 0 [.ref (aw_ad G b), .int (nI l), .int t, .null] 0 []
  refine aw_aload_n dX1_boundOf_0 rfl ?_
  refine aw_getR dX1_boundOf_1 flX1_25 hB.o hB.p6 ?_
  refine aw_iload_n dX1_boundOf_4 rfl ?_
  refine aw_iald dX1_boundOf_5 hB.s6 rfl (by omega) ?_
  refine aw_iload_n dX1_boundOf_6 rfl ?_
  refine aw_aload_n dX1_boundOf_7 rfl ?_
  refine aw_getR dX1_boundOf_8 flX1_28 hB.o hB.p7 ?_
  refine aw_iload_n dX1_boundOf_11 rfl ?_
  refine aw_iald dX1_boundOf_12 hB.s7 rfl (by omega) ?_
  refine aw_imul dX1_boundOf_13 ?_
  refine aw_iadd dX1_boundOf_14 ?_
  refine aw_istore_n dX1_boundOf_15 (by decide) ?_
  refine aw_aload_n dX1_boundOf_16 rfl ?_
  refine aw_getR dX1_boundOf_17 flX1_22 hB.o hB.p5 ?_
  refine aw_iload_n dX1_boundOf_20 rfl ?_
  refine aw_iald dX1_boundOf_21 hB.s5 rfl (by omega) ?_
  by_cases hk1 : I (b + 3) l = nI 1
  · refine aw_toI hk1 (aw_lookup (off := 26) (t := 48) dX1_boundOf_22 (by decide) (by decide) (by decide) ?_)
    refine aw_iload_n dX1_boundOf_48 rfl ?_
    refine aw_ineg dX1_boundOf_49 ?_
    exact aw_iret dX1_boundOf_50 rfl (by simp only [sp_bnd, *, if_true, if_false] at hQ; first | exact hQ | (rw [if_neg (by decide)] at hQ; exact hQ)) (Nat.zero_le _) (Nat.zero_le _)
  by_cases hk4 : I (b + 3) l = nI 4
  · refine aw_toI hk4 (aw_lookup (off := 29) (t := 51) dX1_boundOf_22 (by decide) (by decide) (by decide) ?_)
    refine aw_iload_n dX1_boundOf_51 rfl ?_
    refine aw_ineg dX1_boundOf_52 ?_
    refine aw_iconst (v := nI 1) dX1_boundOf_53 (by decide) ?_
    refine aw_isub dX1_boundOf_54 ?_
    exact aw_iret dX1_boundOf_55 rfl (by simp only [sp_bnd, *, if_true, if_false] at hQ; first | exact hQ | (rw [if_neg (by decide)] at hQ; exact hQ)) (Nat.zero_le _) (Nat.zero_le _)
  refine aw_lookup (off := 34) (t := 56) dX1_boundOf_22 (by decide) (by rw [lv_osw hk1 (by decide), lv_osw hk4 (by decide)]; rfl) (by decide) ?_
  refine aw_iload_n dX1_boundOf_56 rfl ?_
  exact aw_iret dX1_boundOf_57 rfl (by simp only [sp_bnd, *, if_true, if_false] at hQ; first | exact hQ | (rw [if_neg (by decide)] at hQ; exact hQ)) (Nat.zero_le _) (Nat.zero_le _)
theorem tX1_isOn {G : aw_G} {d : Nat} {Ω : aw_O} {I : aw_MI} {J : aw_MJ} {Q : Int32 → aw_O → aw_MI → aw_MJ → Prop} {b l : Nat} (hB : aw_bowl Ω b) (hl : l < 6) (hQ : Q (sp_on (I (b + 3) l)) Ω I J) : aw_Call G MX1_isOn d 0 0 [.ref (aw_ad G b), .int (nI l)] Ω I J (aw_QI Q) := by
  refine aw_enter (by decide) rfl (Nat.le_of_ble_eq_true rfl) ?_
  show AW G MX1_isOn (aw_nx Ω) d 0 0 (aw_QI Q) Ω I J 0 0 [.ref (aw_ad G b), .int (nI l)] 0 []
  refine aw_aload_n dX1_isOn_0 rfl ?_
  refine aw_getR dX1_isOn_1 flX1_22 hB.o hB.p5 ?_
  refine aw_iload_n dX1_isOn_4 rfl ?_
  refine aw_iald dX1_isOn_5 hB.s5 rfl (by omega) ?_
  refine aw_iconst (v := nI 2) dX1_isOn_6 (by decide) ?_
  refine aw_icmp_ne (t := 14) dX1_isOn_7 (by decide) (fun h1 => ?_) (fun h1 => ?_)
  · skip
    refine aw_iconst (v := nI 0) dX1_isOn_14 (by decide) ?_
    exact aw_zret dX1_isOn_15 rfl (by decide) (by rw [sp_on] at hQ; simp only [h1, if_true, if_false] at hQ; exact hQ) (Nat.zero_le _) (Nat.zero_le _)
  · skip
    refine aw_iconst (v := nI 1) dX1_isOn_10 (by decide) ?_
    refine aw_goto (t := 15) dX1_isOn_11 (by decide) ?_
    exact aw_zret dX1_isOn_15 rfl (by decide) (by rw [sp_on] at hQ; simp only [h1, if_true, if_false] at hQ; exact hQ) (Nat.zero_le _) (Nat.zero_le _)
theorem tX1_driftOf {G : aw_G} {d : Nat} {Ω : aw_O} {I : aw_MI} {J : aw_MJ} {Q : Int32 → aw_O → aw_MI → aw_MJ → Prop} {b l : Nat} (hB : aw_bowl Ω b) (hl : l < 6) (hd : 1 ≤ d) (hQ : Q (sp_bnd (I (b + 3) l) (I (b + 4) l + nI 1 * I (b + 5) l) - sp_bnd (I (b + 3) l) (I (b + 4) l + nI 0 * I (b + 5) l)) Ω I J) : aw_Call G MX1_driftOf d 0 0 [.ref (aw_ad G b), .int (nI l)] Ω I J (aw_QI Q) := by
  refine aw_enter (by decide) rfl (Nat.le_of_ble_eq_true rfl) ?_
  show AW G MX1_driftOf (aw_nx Ω) d 0 0 (aw_QI Q) Ω I J 0 0 [.ref (aw_ad G b), .int (nI l)] 0 []
  refine aw_aload_n dX1_driftOf_0 rfl ?_
  refine aw_iload_n dX1_driftOf_1 rfl ?_
  refine aw_iconst (v := nI 1) dX1_driftOf_2 (by decide) ?_
  refine aw_cvI (As := [_, _]) (d' := d - 1) dX1_driftOf_3 lkX1_59 hB.o (by omega) rfl rfl (Nat.le_of_ble_eq_true rfl) ⟨Nat.le_refl _, Nat.le_refl _⟩ (tX1_boundOf hB hl ?_)
  refine aw_aload_n dX1_driftOf_6 rfl ?_
  refine aw_iload_n dX1_driftOf_7 rfl ?_
  refine aw_iconst (v := nI 0) dX1_driftOf_8 (by decide) ?_
  refine aw_cvI (As := [_, _]) (d' := d - 1) dX1_driftOf_9 lkX1_59 hB.o (by omega) rfl rfl (Nat.le_of_ble_eq_true rfl) ⟨Nat.le_refl _, Nat.le_refl _⟩ (tX1_boundOf hB hl ?_)
  refine aw_isub dX1_driftOf_12 ?_
  exact aw_iret dX1_driftOf_13 rfl (hQ) (Nat.zero_le _) (Nat.zero_le _)
theorem tX1_allLines {G : aw_G} {d : Nat} {Ω : aw_O} {I : aw_MI} {J : aw_MJ} {Q : Int32 → aw_O → aw_MI → aw_MJ → Prop} {b m : Nat} (hB : aw_bowl Ω b) (hm : I b 2 = nI m) (hQ : Q (nI 1 <<< (nI m &&& 31) - nI 1) Ω I J) : aw_Call G MX1_allLines d 0 0 [.ref (aw_ad G b)] Ω I J (aw_QI Q) := by
  refine aw_enter (by decide) rfl (Nat.le_of_ble_eq_true rfl) ?_
  show AW G MX1_allLines (aw_nx Ω) d 0 0 (aw_QI Q) Ω I J 0 0 [.ref (aw_ad G b)] 0 []
  refine aw_iconst (v := nI 1) dX1_allLines_0 (by decide) ?_
  refine aw_aload_n dX1_allLines_1 rfl ?_
  refine aw_getIv (v := nI m) dX1_allLines_2 flX1_37 hB.o hm ?_
  refine aw_ishl dX1_allLines_5 ?_
  refine aw_iconst (v := nI 1) dX1_allLines_6 (by decide) ?_
  refine aw_isub dX1_allLines_7 ?_
  exact aw_iret dX1_allLines_8 rfl (hQ) (Nat.zero_le _) (Nat.zero_le _)
theorem tX1_isHeldBy {G : aw_G} {d : Nat} {Ω : aw_O} {I : aw_MI} {J : aw_MJ} {Q : Int32 → aw_O → aw_MI → aw_MJ → Prop} {b l : Nat} {v : Int64} (hB : aw_bowl Ω b) (hl : l < 6) (hd : 1 ≤ d) (hQ : Q (sp_held (I (b + 3) l) v) Ω I J) : aw_Call G MX1_isHeldBy d 0 0 [.ref (aw_ad G b), .int (nI l), .long v] Ω I J (aw_QI Q) := by
  refine aw_enter (by decide) rfl (Nat.le_of_ble_eq_true rfl) ?_
  show AW G MX1_isHeldBy (aw_nx Ω) d 0 0 (aw_QI Q) Ω I J 0 0 [.ref (aw_ad G b), .int (nI l), .long v, .null] 0 []
  refine aw_aload_n dX1_isHeldBy_0 rfl ?_
  refine aw_iload_n dX1_isHeldBy_1 rfl ?_
  refine aw_cvI (As := [_]) (d' := d - 1) dX1_isHeldBy_2 lkX1_63 hB.o (by omega) rfl rfl (Nat.le_of_ble_eq_true rfl) ⟨Nat.le_refl _, Nat.le_refl _⟩ (tX1_isOn hB hl ?_)
  refine aw_if_eq (t := 22) dX1_isHeldBy_5 (by decide) (fun h1 => ?_) (fun h1 => ?_)
  · skip
    refine aw_lload_n dX1_isHeldBy_22 rfl ?_
    refine aw_lconst (v := 0) dX1_isHeldBy_23 (by decide) ?_
    refine aw_lcmp dX1_isHeldBy_24 ?_
    refine aw_if_lt (t := 32) dX1_isHeldBy_25 (by decide) (fun h2 => ?_) (fun h2 => ?_)
    · skip
      refine aw_iconst (v := nI 0) dX1_isHeldBy_32 (by decide) ?_
      exact aw_zret dX1_isHeldBy_33 rfl (by decide) (by sorry) (Nat.zero_le _) (Nat.zero_le _)
    · skip
      refine aw_iconst (v := nI 1) dX1_isHeldBy_28 (by decide) ?_
      refine aw_goto (t := 33) dX1_isHeldBy_29 (by decide) ?_
      exact aw_zret dX1_isHeldBy_33 rfl (by decide) (by sorry) (Nat.zero_le _) (Nat.zero_le _)
  · skip
    refine aw_lload_n dX1_isHeldBy_8 rfl ?_
    refine aw_lconst (v := 0) dX1_isHeldBy_9 (by decide) ?_
    refine aw_lcmp dX1_isHeldBy_10 ?_
    refine aw_if_ne (t := 18) dX1_isHeldBy_11 (by decide) (fun h3 => ?_) (fun h3 => ?_)
    · skip
      refine aw_iconst (v := nI 0) dX1_isHeldBy_18 (by decide) ?_
      refine aw_goto (t := 33) dX1_isHeldBy_19 (by decide) ?_
      exact aw_zret dX1_isHeldBy_33 rfl (by decide) (by sorry) (Nat.zero_le _) (Nat.zero_le _)
    · skip
      refine aw_iconst (v := nI 1) dX1_isHeldBy_14 (by decide) ?_
      refine aw_goto (t := 33) dX1_isHeldBy_15 (by decide) ?_
      exact aw_zret dX1_isHeldBy_33 rfl (by decide) (by sorry) (Nat.zero_le _) (Nat.zero_le _)
end
