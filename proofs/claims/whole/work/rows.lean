section
-- ===== PART A: goes FIRST, ahead of the names: the tables' words, and 'selects' of the private methods out of them =====
/-- a private method of a class that the tables say can be made, by its rows of tables_1 -/
def lw_okq (q : MethodName × Nat) : Prop := (q.1.cls ≠ "java/lang/invoke/MethodHandle" ∧ q.1.cls ≠ "java/lang/invoke/VarHandle") ∧ Cond.instantiable q.1.cls q.2 ∈ tables_1 ∧ Cond.privateMethod q.1 ∈ tables_1 ∧ Cond.instanceMethod q.1 ∈ tables_1
theorem lw_p0 : lw_okq (⟨"LeastInBounds", "isVariable", "(I)Z"⟩, 9) := ⟨⟨by decide +kernel, by decide +kernel⟩, List.mem_of_getElem? (i := 15) (by decide +kernel), List.mem_of_getElem? (i := 266) (by decide +kernel), List.mem_of_getElem? (i := 267) (by decide +kernel)⟩
theorem lw_p1 : lw_okq (⟨"LeastInBounds", "isLine", "(I)Z"⟩, 9) := ⟨⟨by decide +kernel, by decide +kernel⟩, List.mem_of_getElem? (i := 15) (by decide +kernel), List.mem_of_getElem? (i := 304) (by decide +kernel), List.mem_of_getElem? (i := 305) (by decide +kernel)⟩
theorem lw_p2 : lw_okq (⟨"LeastInBounds", "isSet", "(I)Z"⟩, 9) := ⟨⟨by decide +kernel, by decide +kernel⟩, List.mem_of_getElem? (i := 15) (by decide +kernel), List.mem_of_getElem? (i := 360) (by decide +kernel), List.mem_of_getElem? (i := 361) (by decide +kernel)⟩
theorem lw_p3 : lw_okq (⟨"LeastInBounds", "find", "(ZI)I"⟩, 9) := ⟨⟨by decide +kernel, by decide +kernel⟩, List.mem_of_getElem? (i := 15) (by decide +kernel), List.mem_of_getElem? (i := 368) (by decide +kernel), List.mem_of_getElem? (i := 369) (by decide +kernel)⟩
theorem lw_p4 : lw_okq (⟨"LeastInBounds$Solver", "meet", "(I)Z"⟩, 13) := ⟨⟨by decide +kernel, by decide +kernel⟩, List.mem_of_getElem? (i := 74) (by decide +kernel), List.mem_of_getElem? (i := 376) (by decide +kernel), List.mem_of_getElem? (i := 377) (by decide +kernel)⟩
theorem lw_p5 : lw_okq (⟨"LeastInBounds$Solver", "gather", "(I)V"⟩, 13) := ⟨⟨by decide +kernel, by decide +kernel⟩, List.mem_of_getElem? (i := 74) (by decide +kernel), List.mem_of_getElem? (i := 386) (by decide +kernel), List.mem_of_getElem? (i := 387) (by decide +kernel)⟩
theorem lw_p6 : lw_okq (⟨"LeastInBounds$Solver", "fillBowlRows", "()V"⟩, 13) := ⟨⟨by decide +kernel, by decide +kernel⟩, List.mem_of_getElem? (i := 74) (by decide +kernel), List.mem_of_getElem? (i := 390) (by decide +kernel), List.mem_of_getElem? (i := 391) (by decide +kernel)⟩
theorem lw_p7 : lw_okq (⟨"LeastInBounds$Solver", "fillLineRows", "()V"⟩, 13) := ⟨⟨by decide +kernel, by decide +kernel⟩, List.mem_of_getElem? (i := 74) (by decide +kernel), List.mem_of_getElem? (i := 396) (by decide +kernel), List.mem_of_getElem? (i := 397) (by decide +kernel)⟩
theorem lw_p8 : lw_okq (⟨"LeastInBounds$Solver", "eliminate", "()Z"⟩, 13) := ⟨⟨by decide +kernel, by decide +kernel⟩, List.mem_of_getElem? (i := 74) (by decide +kernel), List.mem_of_getElem? (i := 409) (by decide +kernel), List.mem_of_getElem? (i := 410) (by decide +kernel)⟩
theorem lw_p9 : lw_okq (⟨"LeastInBounds$Solver", "clearRow", "([J[JIJ)V"⟩, 13) := ⟨⟨by decide +kernel, by decide +kernel⟩, List.mem_of_getElem? (i := 74) (by decide +kernel), List.mem_of_getElem? (i := 413) (by decide +kernel), List.mem_of_getElem? (i := 414) (by decide +kernel)⟩
theorem lw_p10 : lw_okq (⟨"LeastInBounds$Solver", "layAt", "(I)V"⟩, 13) := ⟨⟨by decide +kernel, by decide +kernel⟩, List.mem_of_getElem? (i := 74) (by decide +kernel), List.mem_of_getElem? (i := 417) (by decide +kernel), List.mem_of_getElem? (i := 418) (by decide +kernel)⟩
theorem lw_p11 : lw_okq (⟨"LeastInBounds$Solver", "fits", "(I)Z"⟩, 13) := ⟨⟨by decide +kernel, by decide +kernel⟩, List.mem_of_getElem? (i := 74) (by decide +kernel), List.mem_of_getElem? (i := 421) (by decide +kernel), List.mem_of_getElem? (i := 422) (by decide +kernel)⟩
theorem lw_p12 : lw_okq (⟨"LeastInBounds$Solver", "claimTides", "(III)V"⟩, 13) := ⟨⟨by decide +kernel, by decide +kernel⟩, List.mem_of_getElem? (i := 74) (by decide +kernel), List.mem_of_getElem? (i := 521) (by decide +kernel), List.mem_of_getElem? (i := 522) (by decide +kernel)⟩
theorem lw_p13 : lw_okq (⟨"LeastInBounds$Solver", "limitReach", "(JJ)V"⟩, 13) := ⟨⟨by decide +kernel, by decide +kernel⟩, List.mem_of_getElem? (i := 74) (by decide +kernel), List.mem_of_getElem? (i := 534) (by decide +kernel), List.mem_of_getElem? (i := 535) (by decide +kernel)⟩
theorem lw_p14 : lw_okq (⟨"LeastInBounds", "findNear", "(ZIII)I"⟩, 9) := ⟨⟨by decide +kernel, by decide +kernel⟩, List.mem_of_getElem? (i := 15) (by decide +kernel), List.mem_of_getElem? (i := 549) (by decide +kernel), List.mem_of_getElem? (i := 550) (by decide +kernel)⟩
theorem lw_p15 : lw_okq (⟨"LeastInBounds$Certificate", "sharedBy", "(LLeastInBounds$Point;)J"⟩, 2) := ⟨⟨by decide +kernel, by decide +kernel⟩, List.mem_of_getElem? (i := 176) (by decide +kernel), List.mem_of_getElem? (i := 577) (by decide +kernel), List.mem_of_getElem? (i := 578) (by decide +kernel)⟩
def lw_privs_1 : List (MethodName × Nat) := [(⟨"LeastInBounds", "isVariable", "(I)Z"⟩, 9), (⟨"LeastInBounds", "isLine", "(I)Z"⟩, 9), (⟨"LeastInBounds", "isSet", "(I)Z"⟩, 9), (⟨"LeastInBounds", "find", "(ZI)I"⟩, 9), (⟨"LeastInBounds$Solver", "meet", "(I)Z"⟩, 13), (⟨"LeastInBounds$Solver", "gather", "(I)V"⟩, 13), (⟨"LeastInBounds$Solver", "fillBowlRows", "()V"⟩, 13), (⟨"LeastInBounds$Solver", "fillLineRows", "()V"⟩, 13), (⟨"LeastInBounds$Solver", "eliminate", "()Z"⟩, 13), (⟨"LeastInBounds$Solver", "clearRow", "([J[JIJ)V"⟩, 13), (⟨"LeastInBounds$Solver", "layAt", "(I)V"⟩, 13), (⟨"LeastInBounds$Solver", "fits", "(I)Z"⟩, 13), (⟨"LeastInBounds$Solver", "claimTides", "(III)V"⟩, 13), (⟨"LeastInBounds$Solver", "limitReach", "(JJ)V"⟩, 13), (⟨"LeastInBounds", "findNear", "(ZIII)I"⟩, 9), (⟨"LeastInBounds$Certificate", "sharedBy", "(LLeastInBounds$Point;)J"⟩, 2)]
theorem lw_r1 : ∀ q ∈ lw_privs_1, lw_okq q := List.forall_mem_cons.mpr ⟨lw_p0, List.forall_mem_cons.mpr ⟨lw_p1, List.forall_mem_cons.mpr ⟨lw_p2, List.forall_mem_cons.mpr ⟨lw_p3, List.forall_mem_cons.mpr ⟨lw_p4, List.forall_mem_cons.mpr ⟨lw_p5, List.forall_mem_cons.mpr ⟨lw_p6, List.forall_mem_cons.mpr ⟨lw_p7, List.forall_mem_cons.mpr ⟨lw_p8, List.forall_mem_cons.mpr ⟨lw_p9, List.forall_mem_cons.mpr ⟨lw_p10, List.forall_mem_cons.mpr ⟨lw_p11, List.forall_mem_cons.mpr ⟨lw_p12, List.forall_mem_cons.mpr ⟨lw_p13, List.forall_mem_cons.mpr ⟨lw_p14, List.forall_mem_cons.mpr ⟨lw_p15, fun _ h => absurd h List.not_mem_nil⟩⟩⟩⟩⟩⟩⟩⟩⟩⟩⟩⟩⟩⟩⟩⟩
theorem lw_p16 : lw_okq (⟨"LeastInBounds$Certificate", "isBalanced", "()Z"⟩, 2) := ⟨⟨by decide +kernel, by decide +kernel⟩, List.mem_of_getElem? (i := 176) (by decide +kernel), List.mem_of_getElem? (i := 618) (by decide +kernel), List.mem_of_getElem? (i := 619) (by decide +kernel)⟩
theorem lw_p17 : lw_okq (⟨"LeastInBounds$Certificate", "isWeighedRight", "()Z"⟩, 2) := ⟨⟨by decide +kernel, by decide +kernel⟩, List.mem_of_getElem? (i := 176) (by decide +kernel), List.mem_of_getElem? (i := 624) (by decide +kernel), List.mem_of_getElem? (i := 625) (by decide +kernel)⟩
theorem lw_p18 : lw_okq (⟨"LeastInBounds$Certificate", "isHeld", "()Z"⟩, 2) := ⟨⟨by decide +kernel, by decide +kernel⟩, List.mem_of_getElem? (i := 176) (by decide +kernel), List.mem_of_getElem? (i := 629) (by decide +kernel), List.mem_of_getElem? (i := 630) (by decide +kernel)⟩
theorem lw_p19 : lw_okq (⟨"LeastInBounds$Certificate", "slackOf", "(I)J"⟩, 2) := ⟨⟨by decide +kernel, by decide +kernel⟩, List.mem_of_getElem? (i := 176) (by decide +kernel), List.mem_of_getElem? (i := 633) (by decide +kernel), List.mem_of_getElem? (i := 634) (by decide +kernel)⟩
theorem lw_p20 : lw_okq (⟨"LeastInBounds$Certificate", "isWeightOnlyWhereTight", "()Z"⟩, 2) := ⟨⟨by decide +kernel, by decide +kernel⟩, List.mem_of_getElem? (i := 176) (by decide +kernel), List.mem_of_getElem? (i := 640) (by decide +kernel), List.mem_of_getElem? (i := 641) (by decide +kernel)⟩
theorem lw_p21 : lw_okq (⟨"LeastInBounds", "refusedCell", "(II)I"⟩, 9) := ⟨⟨by decide +kernel, by decide +kernel⟩, List.mem_of_getElem? (i := 15) (by decide +kernel), List.mem_of_getElem? (i := 688) (by decide +kernel), List.mem_of_getElem? (i := 689) (by decide +kernel)⟩
theorem lw_p22 : lw_okq (⟨"LeastInBoundsModel", "isVariable", "(I)Z"⟩, 33) := ⟨⟨by decide +kernel, by decide +kernel⟩, List.mem_of_getElem? (i := 727) (by decide +kernel), List.mem_of_getElem? (i := 845) (by decide +kernel), List.mem_of_getElem? (i := 846) (by decide +kernel)⟩
theorem lw_p23 : lw_okq (⟨"LeastInBoundsModel", "isLine", "(I)Z"⟩, 33) := ⟨⟨by decide +kernel, by decide +kernel⟩, List.mem_of_getElem? (i := 727) (by decide +kernel), List.mem_of_getElem? (i := 872) (by decide +kernel), List.mem_of_getElem? (i := 873) (by decide +kernel)⟩
theorem lw_p24 : lw_okq (⟨"LeastInBoundsModel", "becomes", "(II)I"⟩, 33) := ⟨⟨by decide +kernel, by decide +kernel⟩, List.mem_of_getElem? (i := 727) (by decide +kernel), List.mem_of_getElem? (i := 877) (by decide +kernel), List.mem_of_getElem? (i := 878) (by decide +kernel)⟩
theorem lw_p25 : lw_okq (⟨"LeastInBoundsModel", "bound", "(I)I"⟩, 33) := ⟨⟨by decide +kernel, by decide +kernel⟩, List.mem_of_getElem? (i := 727) (by decide +kernel), List.mem_of_getElem? (i := 894) (by decide +kernel), List.mem_of_getElem? (i := 895) (by decide +kernel)⟩
theorem lw_p26 : lw_okq (⟨"LeastInBoundsModel", "row", "(II)I"⟩, 33) := ⟨⟨by decide +kernel, by decide +kernel⟩, List.mem_of_getElem? (i := 727) (by decide +kernel), List.mem_of_getElem? (i := 898) (by decide +kernel), List.mem_of_getElem? (i := 899) (by decide +kernel)⟩
theorem lw_p27 : lw_okq (⟨"LeastInBoundsModel", "minorOf", "(I)I"⟩, 33) := ⟨⟨by decide +kernel, by decide +kernel⟩, List.mem_of_getElem? (i := 727) (by decide +kernel), List.mem_of_getElem? (i := 906) (by decide +kernel), List.mem_of_getElem? (i := 907) (by decide +kernel)⟩
theorem lw_p28 : lw_okq (⟨"LeastInBoundsModel", "determinant", "()J"⟩, 33) := ⟨⟨by decide +kernel, by decide +kernel⟩, List.mem_of_getElem? (i := 727) (by decide +kernel), List.mem_of_getElem? (i := 910) (by decide +kernel), List.mem_of_getElem? (i := 911) (by decide +kernel)⟩
theorem lw_p29 : lw_okq (⟨"LeastInBoundsModel", "proper", "()Z"⟩, 33) := ⟨⟨by decide +kernel, by decide +kernel⟩, List.mem_of_getElem? (i := 727) (by decide +kernel), List.mem_of_getElem? (i := 921) (by decide +kernel), List.mem_of_getElem? (i := 922) (by decide +kernel)⟩
theorem lw_p30 : lw_okq (⟨"LeastInBoundsModel", "isSet", "(I)Z"⟩, 33) := ⟨⟨by decide +kernel, by decide +kernel⟩, List.mem_of_getElem? (i := 727) (by decide +kernel), List.mem_of_getElem? (i := 929) (by decide +kernel), List.mem_of_getElem? (i := 930) (by decide +kernel)⟩
theorem lw_p31 : lw_okq (⟨"LeastInBoundsModel", "works", "(I)I"⟩, 33) := ⟨⟨by decide +kernel, by decide +kernel⟩, List.mem_of_getElem? (i := 727) (by decide +kernel), List.mem_of_getElem? (i := 933) (by decide +kernel), List.mem_of_getElem? (i := 934) (by decide +kernel)⟩
def lw_privs_2 : List (MethodName × Nat) := [(⟨"LeastInBounds$Certificate", "isBalanced", "()Z"⟩, 2), (⟨"LeastInBounds$Certificate", "isWeighedRight", "()Z"⟩, 2), (⟨"LeastInBounds$Certificate", "isHeld", "()Z"⟩, 2), (⟨"LeastInBounds$Certificate", "slackOf", "(I)J"⟩, 2), (⟨"LeastInBounds$Certificate", "isWeightOnlyWhereTight", "()Z"⟩, 2), (⟨"LeastInBounds", "refusedCell", "(II)I"⟩, 9), (⟨"LeastInBoundsModel", "isVariable", "(I)Z"⟩, 33), (⟨"LeastInBoundsModel", "isLine", "(I)Z"⟩, 33), (⟨"LeastInBoundsModel", "becomes", "(II)I"⟩, 33), (⟨"LeastInBoundsModel", "bound", "(I)I"⟩, 33), (⟨"LeastInBoundsModel", "row", "(II)I"⟩, 33), (⟨"LeastInBoundsModel", "minorOf", "(I)I"⟩, 33), (⟨"LeastInBoundsModel", "determinant", "()J"⟩, 33), (⟨"LeastInBoundsModel", "proper", "()Z"⟩, 33), (⟨"LeastInBoundsModel", "isSet", "(I)Z"⟩, 33), (⟨"LeastInBoundsModel", "works", "(I)I"⟩, 33)]
theorem lw_r2 : ∀ q ∈ lw_privs_2, lw_okq q := List.forall_mem_cons.mpr ⟨lw_p16, List.forall_mem_cons.mpr ⟨lw_p17, List.forall_mem_cons.mpr ⟨lw_p18, List.forall_mem_cons.mpr ⟨lw_p19, List.forall_mem_cons.mpr ⟨lw_p20, List.forall_mem_cons.mpr ⟨lw_p21, List.forall_mem_cons.mpr ⟨lw_p22, List.forall_mem_cons.mpr ⟨lw_p23, List.forall_mem_cons.mpr ⟨lw_p24, List.forall_mem_cons.mpr ⟨lw_p25, List.forall_mem_cons.mpr ⟨lw_p26, List.forall_mem_cons.mpr ⟨lw_p27, List.forall_mem_cons.mpr ⟨lw_p28, List.forall_mem_cons.mpr ⟨lw_p29, List.forall_mem_cons.mpr ⟨lw_p30, List.forall_mem_cons.mpr ⟨lw_p31, fun _ h => absurd h List.not_mem_nil⟩⟩⟩⟩⟩⟩⟩⟩⟩⟩⟩⟩⟩⟩⟩⟩
theorem lw_p32 : lw_okq (⟨"LeastInBoundsModel", "finds", "(I)Z"⟩, 33) := ⟨⟨by decide +kernel, by decide +kernel⟩, List.mem_of_getElem? (i := 727) (by decide +kernel), List.mem_of_getElem? (i := 937) (by decide +kernel), List.mem_of_getElem? (i := 938) (by decide +kernel)⟩
theorem lw_p33 : lw_okq (⟨"LeastInBoundsModel", "laysSome", "(I)I"⟩, 33) := ⟨⟨by decide +kernel, by decide +kernel⟩, List.mem_of_getElem? (i := 727) (by decide +kernel), List.mem_of_getElem? (i := 941) (by decide +kernel), List.mem_of_getElem? (i := 942) (by decide +kernel)⟩
theorem lw_p34 : lw_okq (⟨"LeastInBoundsModel", "laysCells", "(I)V"⟩, 33) := ⟨⟨by decide +kernel, by decide +kernel⟩, List.mem_of_getElem? (i := 727) (by decide +kernel), List.mem_of_getElem? (i := 945) (by decide +kernel), List.mem_of_getElem? (i := 946) (by decide +kernel)⟩
theorem lw_p35 : lw_okq (⟨"LeastInBoundsModel", "tells", "([J[JIZ)V"⟩, 33) := ⟨⟨by decide +kernel, by decide +kernel⟩, List.mem_of_getElem? (i := 727) (by decide +kernel), List.mem_of_getElem? (i := 949) (by decide +kernel), List.mem_of_getElem? (i := 950) (by decide +kernel)⟩
theorem lw_p36 : lw_okq (⟨"LeastInBoundsModel", "instead", "(I)J"⟩, 33) := ⟨⟨by decide +kernel, by decide +kernel⟩, List.mem_of_getElem? (i := 727) (by decide +kernel), List.mem_of_getElem? (i := 953) (by decide +kernel), List.mem_of_getElem? (i := 954) (by decide +kernel)⟩
theorem lw_p37 : lw_okq (⟨"LeastInBoundsModel", "isRight", "(I)Z"⟩, 33) := ⟨⟨by decide +kernel, by decide +kernel⟩, List.mem_of_getElem? (i := 727) (by decide +kernel), List.mem_of_getElem? (i := 957) (by decide +kernel), List.mem_of_getElem? (i := 958) (by decide +kernel)⟩
theorem lw_p38 : lw_okq (⟨"LeastInBoundsModel", "holds", "(I)Z"⟩, 33) := ⟨⟨by decide +kernel, by decide +kernel⟩, List.mem_of_getElem? (i := 727) (by decide +kernel), List.mem_of_getElem? (i := 961) (by decide +kernel), List.mem_of_getElem? (i := 962) (by decide +kernel)⟩
theorem lw_p39 : lw_okq (⟨"LeastInBoundsModel", "slackOf", "(I)J"⟩, 33) := ⟨⟨by decide +kernel, by decide +kernel⟩, List.mem_of_getElem? (i := 727) (by decide +kernel), List.mem_of_getElem? (i := 965) (by decide +kernel), List.mem_of_getElem? (i := 966) (by decide +kernel)⟩
theorem lw_p40 : lw_okq (⟨"LeastInBoundsModel", "isOn", "(I)Z"⟩, 33) := ⟨⟨by decide +kernel, by decide +kernel⟩, List.mem_of_getElem? (i := 727) (by decide +kernel), List.mem_of_getElem? (i := 969) (by decide +kernel), List.mem_of_getElem? (i := 970) (by decide +kernel)⟩
theorem lw_p41 : lw_okq (⟨"LeastInBoundsModel", "lacks", "(IZ)I"⟩, 33) := ⟨⟨by decide +kernel, by decide +kernel⟩, List.mem_of_getElem? (i := 727) (by decide +kernel), List.mem_of_getElem? (i := 980) (by decide +kernel), List.mem_of_getElem? (i := 981) (by decide +kernel)⟩
theorem lw_p42 : lw_okq (⟨"LeastInBoundsModel", "worthOf", "()J"⟩, 33) := ⟨⟨by decide +kernel, by decide +kernel⟩, List.mem_of_getElem? (i := 727) (by decide +kernel), List.mem_of_getElem? (i := 998) (by decide +kernel), List.mem_of_getElem? (i := 999) (by decide +kernel)⟩
theorem lw_p43 : lw_okq (⟨"LeastInBoundsModel", "heldNow", "()I"⟩, 33) := ⟨⟨by decide +kernel, by decide +kernel⟩, List.mem_of_getElem? (i := 727) (by decide +kernel), List.mem_of_getElem? (i := 1014) (by decide +kernel), List.mem_of_getElem? (i := 1015) (by decide +kernel)⟩
theorem lw_p44 : lw_okq (⟨"LeastInBoundsModel", "walks", "()Z"⟩, 33) := ⟨⟨by decide +kernel, by decide +kernel⟩, List.mem_of_getElem? (i := 727) (by decide +kernel), List.mem_of_getElem? (i := 1026) (by decide +kernel), List.mem_of_getElem? (i := 1027) (by decide +kernel)⟩
theorem lw_p45 : lw_okq (⟨"LeastInBoundsModel", "all", "()I"⟩, 33) := ⟨⟨by decide +kernel, by decide +kernel⟩, List.mem_of_getElem? (i := 727) (by decide +kernel), List.mem_of_getElem? (i := 1038) (by decide +kernel), List.mem_of_getElem? (i := 1039) (by decide +kernel)⟩
theorem lw_p46 : lw_okq (⟨"LeastInBoundsModel", "findsRise", "(I)V"⟩, 33) := ⟨⟨by decide +kernel, by decide +kernel⟩, List.mem_of_getElem? (i := 727) (by decide +kernel), List.mem_of_getElem? (i := 1046) (by decide +kernel), List.mem_of_getElem? (i := 1047) (by decide +kernel)⟩
theorem lw_p47 : lw_okq (⟨"LeastInBoundsModel", "rise", "(I)I"⟩, 33) := ⟨⟨by decide +kernel, by decide +kernel⟩, List.mem_of_getElem? (i := 727) (by decide +kernel), List.mem_of_getElem? (i := 1050) (by decide +kernel), List.mem_of_getElem? (i := 1051) (by decide +kernel)⟩
def lw_privs_3 : List (MethodName × Nat) := [(⟨"LeastInBoundsModel", "finds", "(I)Z"⟩, 33), (⟨"LeastInBoundsModel", "laysSome", "(I)I"⟩, 33), (⟨"LeastInBoundsModel", "laysCells", "(I)V"⟩, 33), (⟨"LeastInBoundsModel", "tells", "([J[JIZ)V"⟩, 33), (⟨"LeastInBoundsModel", "instead", "(I)J"⟩, 33), (⟨"LeastInBoundsModel", "isRight", "(I)Z"⟩, 33), (⟨"LeastInBoundsModel", "holds", "(I)Z"⟩, 33), (⟨"LeastInBoundsModel", "slackOf", "(I)J"⟩, 33), (⟨"LeastInBoundsModel", "isOn", "(I)Z"⟩, 33), (⟨"LeastInBoundsModel", "lacks", "(IZ)I"⟩, 33), (⟨"LeastInBoundsModel", "worthOf", "()J"⟩, 33), (⟨"LeastInBoundsModel", "heldNow", "()I"⟩, 33), (⟨"LeastInBoundsModel", "walks", "()Z"⟩, 33), (⟨"LeastInBoundsModel", "all", "()I"⟩, 33), (⟨"LeastInBoundsModel", "findsRise", "(I)V"⟩, 33), (⟨"LeastInBoundsModel", "rise", "(I)I"⟩, 33)]
theorem lw_r3 : ∀ q ∈ lw_privs_3, lw_okq q := List.forall_mem_cons.mpr ⟨lw_p32, List.forall_mem_cons.mpr ⟨lw_p33, List.forall_mem_cons.mpr ⟨lw_p34, List.forall_mem_cons.mpr ⟨lw_p35, List.forall_mem_cons.mpr ⟨lw_p36, List.forall_mem_cons.mpr ⟨lw_p37, List.forall_mem_cons.mpr ⟨lw_p38, List.forall_mem_cons.mpr ⟨lw_p39, List.forall_mem_cons.mpr ⟨lw_p40, List.forall_mem_cons.mpr ⟨lw_p41, List.forall_mem_cons.mpr ⟨lw_p42, List.forall_mem_cons.mpr ⟨lw_p43, List.forall_mem_cons.mpr ⟨lw_p44, List.forall_mem_cons.mpr ⟨lw_p45, List.forall_mem_cons.mpr ⟨lw_p46, List.forall_mem_cons.mpr ⟨lw_p47, fun _ h => absurd h List.not_mem_nil⟩⟩⟩⟩⟩⟩⟩⟩⟩⟩⟩⟩⟩⟩⟩⟩
theorem lw_p48 : lw_okq (⟨"LeastInBoundsModel", "bounds", "(JJ)V"⟩, 33) := ⟨⟨by decide +kernel, by decide +kernel⟩, List.mem_of_getElem? (i := 727) (by decide +kernel), List.mem_of_getElem? (i := 1054) (by decide +kernel), List.mem_of_getElem? (i := 1055) (by decide +kernel)⟩
theorem lw_p49 : lw_okq (⟨"LeastInBoundsModel", "isNear", "([I)Z"⟩, 33) := ⟨⟨by decide +kernel, by decide +kernel⟩, List.mem_of_getElem? (i := 727) (by decide +kernel), List.mem_of_getElem? (i := 1069) (by decide +kernel), List.mem_of_getElem? (i := 1070) (by decide +kernel)⟩
theorem lw_p50 : lw_okq (⟨"LeastInBoundsModel", "becomesRow", "(III)V"⟩, 33) := ⟨⟨by decide +kernel, by decide +kernel⟩, List.mem_of_getElem? (i := 727) (by decide +kernel), List.mem_of_getElem? (i := 1084) (by decide +kernel), List.mem_of_getElem? (i := 1085) (by decide +kernel)⟩
theorem lw_p51 : lw_okq (⟨"LeastInBoundsModel", "isStill", "()Z"⟩, 33) := ⟨⟨by decide +kernel, by decide +kernel⟩, List.mem_of_getElem? (i := 727) (by decide +kernel), List.mem_of_getElem? (i := 1094) (by decide +kernel), List.mem_of_getElem? (i := 1095) (by decide +kernel)⟩
theorem lw_p52 : lw_okq (⟨"LeastInBoundsModel", "wrong", "(II)I"⟩, 33) := ⟨⟨by decide +kernel, by decide +kernel⟩, List.mem_of_getElem? (i := 727) (by decide +kernel), List.mem_of_getElem? (i := 1129) (by decide +kernel), List.mem_of_getElem? (i := 1130) (by decide +kernel)⟩
def lw_privs_4 : List (MethodName × Nat) := [(⟨"LeastInBoundsModel", "bounds", "(JJ)V"⟩, 33), (⟨"LeastInBoundsModel", "isNear", "([I)Z"⟩, 33), (⟨"LeastInBoundsModel", "becomesRow", "(III)V"⟩, 33), (⟨"LeastInBoundsModel", "isStill", "()Z"⟩, 33), (⟨"LeastInBoundsModel", "wrong", "(II)I"⟩, 33)]
theorem lw_r4 : ∀ q ∈ lw_privs_4, lw_okq q := List.forall_mem_cons.mpr ⟨lw_p48, List.forall_mem_cons.mpr ⟨lw_p49, List.forall_mem_cons.mpr ⟨lw_p50, List.forall_mem_cons.mpr ⟨lw_p51, List.forall_mem_cons.mpr ⟨lw_p52, fun _ h => absurd h List.not_mem_nil⟩⟩⟩⟩⟩
def lw_privs : List (MethodName × Nat) := lw_privs_1 ++ (lw_privs_2 ++ (lw_privs_3 ++ (lw_privs_4)))
def lw_tbl : List Cond := k2_sels lw_privs ++ tables_1
theorem lw_privs_ok : ∀ q ∈ lw_privs, lw_okq q := by
  show ∀ q ∈ lw_privs_1 ++ (lw_privs_2 ++ (lw_privs_3 ++ (lw_privs_4))), lw_okq q
  exact List.forall_mem_append.mpr ⟨lw_r1, List.forall_mem_append.mpr ⟨lw_r2, List.forall_mem_append.mpr ⟨lw_r3, lw_r4⟩⟩⟩
-- ===== end of PART A; then your names; then what follows =====
/-! THE CLAIM OUT OF ONE WALK OF THE LAW'S BODY. Your part is whole_start (and what it stands on); all else here is the same for every law, but numbers. -/
def R_law : String := "LeastInBoundsLaw"
def lw_P (b : Addr) (xs : List Int32) (args : Array Value) (s : State) : Prop := args = #[.ref b] ∧ s.IntsAt b xs ∧ xs.length ≤ 3072 ∧ (Jvm.Cond.and given_1 narrow_1).before args s = true
def lw_Q (_ : Array Value) (s : State) (o : Outcome) (t : State) : Prop := o = .returned (some (.int 1)) ∧ Framed s o t [] 600000 7302249
def lw_Z (below : List Frame) (a : Array Value) (s : State) : State → Prop := fun t => ∃ o, t.status = .running ∧ Ended t below o ∧ lw_Q a s o t
/-- the law's own end, with 1 on the stack, nothing written that was there before, its room as the claim has it -/
theorem lw_ret {p : Program} {l : Launch} {e : Env} {s : State} {m : MethodId} {below : List Frame} {meth : Method} {c : Code} {b : Nat} (hx : p.tables.exec = Jvm.exec) (hb : c.code = code) (hr : meth.sig.returnType = ret) (hlocks : meth.locks = false) {pc : Nat} {H : Heap} {ls : Array Slot} (hdg : decode code pc = .ok (.ireturn, 1)) : W p l e room_1 s m #[Value.ref b] below meth c H [] 600000 7302249 (lw_Z below #[Value.ref b] s) (F0 m pc ls [.int 1]) := by
  intro T hT X
  obtain ⟨fs, hret, hrun, hended, hW, hframe⟩ := X.leave (v := some (.int 1)) (hlocks := hlocks) (fun h => by rw [hr] at h; cases h)
  have hmeth' : T.vm.method? m = some meth := X.method'
  refine ⟨T.setFrames fs, ?_, .returned (some (.int 1)), hrun, hended, rfl, ⟨_, rfl⟩, hW, hframe⟩
  jvm_step X.here [X.here.top, hx, hb, hdg, hmeth', hr, ret, narrow_b1]
  (try refine ⟨rfl, ?_⟩); (try refine ⟨rfl, ?_⟩)
  first | (intro acts; rw [hret _ acts rfl rfl rfl]) | rw [hret _ _ rfl rfl rfl]
  exact Steps.refl _
/-- what holds at the law's entry: the machine, the code, the tables' words (any of lw_tbl by 'hts w (by decide +kernel)'), the script of L ints xs at the cell b, what the Statement gives of the start (any of its parts by flat_of_before) -/
def lw_At (p : Program) (s : State) (m : MethodId) (meth : Method) (c : Code) (b L : Nat) (xs : Nat → Int32) : Prop :=
  p.tables.exec = Jvm.exec ∧ c.code = code ∧ meth.sig.returnType = ret ∧ c.maxLocals = 4 ∧ s.vm.findClass R_law = some m.cls ∧ (∀ w ∈ lw_tbl, w.before #[Value.ref b] s = true) ∧ va_X b L xs s s.heap ∧ b < s.heap.size ∧ meth.locks = false ∧ (Jvm.Cond.and given_1 narrow_1).before #[Value.ref b] s = true
end
section
/-! ===== BEGIN words of one list among another's, by their places ===== -/
theorem goodIn_r {big : List Cond} (ws : List Cond) (ps : List Nat) (hp : ws = ps.filterMap (fun i => big[i]?)) (h : ws.all goodWord = true) : GoodIn big ws := by
  intro w hw
  have h1 := List.all_eq_true.mp h w hw
  rw [hp] at hw
  obtain ⟨i, -, hi⟩ := List.mem_filterMap.mp hw
  have hm : w ∈ big := by first | exact List.mem_of_getElem? hi | exact List.getElem?_mem hi
  exact ⟨hm, good_of_word h1⟩
theorem goodIn_app {big a b : List Cond} (ha : GoodIn big a) (hb : GoodIn big b) : GoodIn big (a ++ b) := fun w h => (List.mem_append.mp h).elim (ha w) (hb w)
theorem goodIn_ca {big a b : List Cond} {c : Cond} (ha : GoodIn big (c :: a)) (hb : GoodIn big b) : GoodIn big (c :: (a ++ b)) := fun w h => (List.mem_cons.mp h).elim (fun e => ha w (List.mem_cons.mpr (Or.inl e))) (fun h => (List.mem_append.mp h).elim (fun h => ha w (List.mem_cons.mpr (Or.inr h))) (hb w))
theorem goodIn_sub {big ws : List Cond} (hm : ∀ w ∈ ws, w ∈ big) (h : ws.all goodWord = true) : GoodIn big ws := fun w hw => ⟨hm w hw, good_of_word (List.all_eq_true.mp h w hw)⟩
/-! ===== END ===== -/
def RX0 : String := "LeastInBounds$Book"
def TX0 : u_T := fun k => match k with
  | 0 => ("LeastInBounds$Book", "noted", "I", false)
  | 1 => ("LeastInBounds$Book", "sum", "J", false)
  | 2 => ("LeastInBounds$Book", "leastAbove", "J", false)
  | 3 => ("LeastInBounds$Book", "leastBelow", "J", false)
  | _ => ("LeastInBounds$Book", "lastEight", "J", false)
def tyX0 : Nat → FieldType := fun k => match k with
  | 0 => .int
  | 1 => .long
  | 2 => .long
  | 3 => .long
  | _ => .long
theorem nmX0 : ∀ a, a < 5 → ∀ b, b < 5 → a ≠ b → (TX0 a).2.1 ≠ (TX0 b).2.1 := by decide +kernel
theorem tyX0_ok : ∀ k, k < 5 → parseFieldDescriptor (TX0 k).2.2.1 = some (tyX0 k) := by decide +kernel
abbrev cX0_init : ByteArray := prog_2_method_1_code
def yX0_init : MethodName := ⟨RX0, "<init>", "()V"⟩
abbrev cX0_write : ByteArray := prog_2_method_2_code
def yX0_write : MethodName := ⟨RX0, "write", "(I)V"⟩
abbrev cX0_offer : ByteArray := prog_2_method_3_code
def yX0_offer : MethodName := ⟨RX0, "offer", "(JJ)V"⟩
abbrev cX0_lastBut : ByteArray := prog_2_method_4_code
def yX0_lastBut : MethodName := ⟨RX0, "lastBut", "(I)I"⟩
def RX1 : String := "LeastInBounds$Bowl"
def TX1 : u_T := fun k => match k with
  | 0 => ("LeastInBounds$Bowl", "variables", "I", false)
  | 1 => ("LeastInBounds$Bowl", "height", "I", false)
  | 2 => ("LeastInBounds$Bowl", "lines", "I", false)
  | 3 => ("LeastInBounds$Bowl", "bends", "[I", true)
  | 4 => ("LeastInBounds$Bowl", "pushes", "[I", true)
  | 5 => ("LeastInBounds$Bowl", "kinds", "[I", true)
  | 6 => ("LeastInBounds$Bowl", "bases", "[I", true)
  | 7 => ("LeastInBounds$Bowl", "drifts", "[I", true)
  | _ => ("LeastInBounds$Bowl", "slopes", "[I", true)
def tyX1 : Nat → FieldType := fun k => match k with
  | 0 => .int
  | 1 => .int
  | 2 => .int
  | 3 => .array .int
  | 4 => .array .int
  | 5 => .array .int
  | 6 => .array .int
  | 7 => .array .int
  | _ => .array .int
theorem nmX1 : ∀ a, a < 9 → ∀ b, b < 9 → a ≠ b → (TX1 a).2.1 ≠ (TX1 b).2.1 := by decide +kernel
theorem tyX1_ok : ∀ k, k < 9 → parseFieldDescriptor (TX1 k).2.2.1 = some (tyX1 k) := by decide +kernel
abbrev cX1_init : ByteArray := prog_3_method_1_code
def yX1_init : MethodName := ⟨RX1, "<init>", "()V"⟩
abbrev cX1_begin : ByteArray := prog_3_method_2_code
def yX1_begin : MethodName := ⟨RX1, "begin", "(I)V"⟩
abbrev cX1_makeRound : ByteArray := prog_3_method_3_code
def yX1_makeRound : MethodName := ⟨RX1, "makeRound", "()V"⟩
abbrev cX1_become : ByteArray := prog_3_method_4_code
def yX1_become : MethodName := ⟨RX1, "become", "(LLeastInBounds$Bowl;)V"⟩
abbrev cX1_bendOf : ByteArray := prog_3_method_5_code
def yX1_bendOf : MethodName := ⟨RX1, "bendOf", "(II)I"⟩
abbrev cX1_putBend : ByteArray := prog_3_method_6_code
def yX1_putBend : MethodName := ⟨RX1, "putBend", "(III)V"⟩
abbrev cX1_addLine : ByteArray := prog_3_method_7_code
def yX1_addLine : MethodName := ⟨RX1, "addLine", "(III)I"⟩
abbrev cX1_removeLine : ByteArray := prog_3_method_8_code
def yX1_removeLine : MethodName := ⟨RX1, "removeLine", "(I)V"⟩
abbrev cX1_isOn : ByteArray := prog_3_method_9_code
def yX1_isOn : MethodName := ⟨RX1, "isOn", "(I)Z"⟩
abbrev cX1_rowOf : ByteArray := prog_3_method_10_code
def yX1_rowOf : MethodName := ⟨RX1, "rowOf", "(II)I"⟩
abbrev cX1_boundOf : ByteArray := prog_3_method_11_code
def yX1_boundOf : MethodName := ⟨RX1, "boundOf", "(II)I"⟩
abbrev cX1_driftOf : ByteArray := prog_3_method_12_code
def yX1_driftOf : MethodName := ⟨RX1, "driftOf", "(I)I"⟩
abbrev cX1_linesOn : ByteArray := prog_3_method_13_code
def yX1_linesOn : MethodName := ⟨RX1, "linesOn", "()I"⟩
abbrev cX1_allLines : ByteArray := prog_3_method_14_code
def yX1_allLines : MethodName := ⟨RX1, "allLines", "()I"⟩
abbrev cX1_determinant : ByteArray := prog_3_method_15_code
def yX1_determinant : MethodName := ⟨RX1, "determinant", "(I)I"⟩
abbrev cX1_hasLeast : ByteArray := prog_3_method_16_code
def yX1_hasLeast : MethodName := ⟨RX1, "hasLeast", "()Z"⟩
abbrev cX1_squareOfPushes : ByteArray := prog_3_method_17_code
def yX1_squareOfPushes : MethodName := ⟨RX1, "squareOfPushes", "()J"⟩
abbrev cX1_leftOf : ByteArray := prog_3_method_18_code
def yX1_leftOf : MethodName := ⟨RX1, "leftOf", "(IILLeastInBounds$Point;)J"⟩
abbrev cX1_isHeldBy : ByteArray := prog_3_method_19_code
def yX1_isHeldBy : MethodName := ⟨RX1, "isHeldBy", "(IJ)Z"⟩
def RX2 : String := "LeastInBounds$Certificate"
def TX2 : u_T := fun k => match k with
  | 0 => ("LeastInBounds$Certificate", "bowl", "LLeastInBounds$Bowl;", true)
  | _ => ("LeastInBounds$Certificate", "told", "LLeastInBounds$Point;", true)
def tyX2 : Nat → FieldType := fun k => match k with
  | 0 => .object "LeastInBounds$Bowl"
  | _ => .object "LeastInBounds$Point"
theorem nmX2 : ∀ a, a < 2 → ∀ b, b < 2 → a ≠ b → (TX2 a).2.1 ≠ (TX2 b).2.1 := by decide +kernel
theorem tyX2_ok : ∀ k, k < 2 → parseFieldDescriptor (TX2 k).2.2.1 = some (tyX2 k) := by decide +kernel
abbrev cX2_init : ByteArray := prog_4_method_1_code
def yX2_init : MethodName := ⟨RX2, "<init>", "(LLeastInBounds$Bowl;)V"⟩
abbrev cX2_length : ByteArray := prog_4_method_2_code
def yX2_length : MethodName := ⟨RX2, "length", "()I"⟩
abbrev cX2_tell : ByteArray := prog_4_method_3_code
def yX2_tell : MethodName := ⟨RX2, "tell", "(LLeastInBounds$Point;LLeastInBounds$Sheets;I)V"⟩
abbrev cX2_sharedBy : ByteArray := prog_4_method_4_code
def yX2_sharedBy : MethodName := ⟨RX2, "sharedBy", "(LLeastInBounds$Point;)J"⟩
abbrev cX2_take : ByteArray := prog_4_method_5_code
def yX2_take : MethodName := ⟨RX2, "take", "(LLeastInBounds$Sheets;I)V"⟩
abbrev cX2_firstWrong : ByteArray := prog_4_method_6_code
def yX2_firstWrong : MethodName := ⟨RX2, "firstWrong", "()I"⟩
abbrev cX2_slackOf : ByteArray := prog_4_method_7_code
def yX2_slackOf : MethodName := ⟨RX2, "slackOf", "(I)J"⟩
abbrev cX2_isBalanced : ByteArray := prog_4_method_8_code
def yX2_isBalanced : MethodName := ⟨RX2, "isBalanced", "()Z"⟩
abbrev cX2_isWeighedRight : ByteArray := prog_4_method_9_code
def yX2_isWeighedRight : MethodName := ⟨RX2, "isWeighedRight", "()Z"⟩
abbrev cX2_isHeld : ByteArray := prog_4_method_10_code
def yX2_isHeld : MethodName := ⟨RX2, "isHeld", "()Z"⟩
abbrev cX2_isWeightOnlyWhereTight : ByteArray := prog_4_method_11_code
def yX2_isWeightOnlyWhereTight : MethodName := ⟨RX2, "isWeightOnlyWhereTight", "()Z"⟩
def RX3 : String := "LeastInBounds$Fractions"
def TX3 : u_T := fun k => match k with
  | _ => ("", "", "", false)
def tyX3 : Nat → FieldType := fun k => match k with
  | _ => .int
theorem nmX3 : ∀ a, a < 0 → ∀ b, b < 0 → a ≠ b → (TX3 a).2.1 ≠ (TX3 b).2.1 := by decide +kernel
theorem tyX3_ok : ∀ k, k < 0 → parseFieldDescriptor (TX3 k).2.2.1 = some (tyX3 k) := by decide +kernel
abbrev cX3_told : ByteArray := prog_5_method_2_code
def yX3_told : MethodName := ⟨RX3, "told", "(JJI)J"⟩
abbrev cX3_shared : ByteArray := prog_5_method_3_code
def yX3_shared : MethodName := ⟨RX3, "shared", "(JJ)J"⟩
abbrev cX3_isLess : ByteArray := prog_5_method_4_code
def yX3_isLess : MethodName := ⟨RX3, "isLess", "(JJJJ)Z"⟩
def RX4 : String := "LeastInBounds$Point"
def TX4 : u_T := fun k => match k with
  | 0 => ("LeastInBounds$Point", "place", "[J", true)
  | 1 => ("LeastInBounds$Point", "weights", "[J", true)
  | _ => ("LeastInBounds$Point", "below", "J", false)
def tyX4 : Nat → FieldType := fun k => match k with
  | 0 => .array .long
  | 1 => .array .long
  | _ => .long
theorem nmX4 : ∀ a, a < 3 → ∀ b, b < 3 → a ≠ b → (TX4 a).2.1 ≠ (TX4 b).2.1 := by decide +kernel
theorem tyX4_ok : ∀ k, k < 3 → parseFieldDescriptor (TX4 k).2.2.1 = some (tyX4 k) := by decide +kernel
abbrev cX4_init : ByteArray := prog_6_method_1_code
def yX4_init : MethodName := ⟨RX4, "<init>", "()V"⟩
def RX5 : String := "LeastInBounds$Sheets"
def TX5 : u_T := fun k => match k with
  | 0 => ("LeastInBounds$Sheets", "sorts", "[I", true)
  | 1 => ("LeastInBounds$Sheets", "lengths", "[I", true)
  | _ => ("LeastInBounds$Sheets", "cells", "[J", true)
def tyX5 : Nat → FieldType := fun k => match k with
  | 0 => .array .int
  | 1 => .array .int
  | _ => .array .long
theorem nmX5 : ∀ a, a < 3 → ∀ b, b < 3 → a ≠ b → (TX5 a).2.1 ≠ (TX5 b).2.1 := by decide +kernel
theorem tyX5_ok : ∀ k, k < 3 → parseFieldDescriptor (TX5 k).2.2.1 = some (tyX5 k) := by decide +kernel
abbrev cX5_init : ByteArray := prog_7_method_1_code
def yX5_init : MethodName := ⟨RX5, "<init>", "()V"⟩
abbrev cX5_begin : ByteArray := prog_7_method_2_code
def yX5_begin : MethodName := ⟨RX5, "begin", "(III)V"⟩
abbrev cX5_at : ByteArray := prog_7_method_3_code
def yX5_at : MethodName := ⟨RX5, "at", "(II)J"⟩
abbrev cX5_put : ByteArray := prog_7_method_4_code
def yX5_put : MethodName := ⟨RX5, "put", "(IIJ)V"⟩
abbrev cX5_hasRoom : ByteArray := prog_7_method_5_code
def yX5_hasRoom : MethodName := ⟨RX5, "hasRoom", "(III)Z"⟩
abbrev cX5_move : ByteArray := prog_7_method_6_code
def yX5_move : MethodName := ⟨RX5, "move", "(IIIII)V"⟩
abbrev cX5_isAllWithin : ByteArray := prog_7_method_7_code
def yX5_isAllWithin : MethodName := ⟨RX5, "isAllWithin", "(IJ)Z"⟩
def RX6 : String := "LeastInBounds$Solver"
def TX6 : u_T := fun k => match k with
  | 0 => ("LeastInBounds$Solver", "bowl", "LLeastInBounds$Bowl;", true)
  | 1 => ("LeastInBounds$Solver", "now", "LLeastInBounds$Point;", true)
  | 2 => ("LeastInBounds$Solver", "drift", "LLeastInBounds$Point;", true)
  | 3 => ("LeastInBounds$Solver", "path", "[I", true)
  | 4 => ("LeastInBounds$Solver", "pathLength", "I", false)
  | 5 => ("LeastInBounds$Solver", "reachAbove", "J", false)
  | 6 => ("LeastInBounds$Solver", "reachBelow", "J", false)
  | 7 => ("LeastInBounds$Solver", "rows", "[[J", true)
  | 8 => ("LeastInBounds$Solver", "members", "[I", true)
  | 9 => ("LeastInBounds$Solver", "foundAt", "[I", true)
  | 10 => ("LeastInBounds$Solver", "height", "I", false)
  | 11 => ("LeastInBounds$Solver", "wide", "I", false)
  | _ => ("LeastInBounds$Solver", "below", "J", false)
def tyX6 : Nat → FieldType := fun k => match k with
  | 0 => .object "LeastInBounds$Bowl"
  | 1 => .object "LeastInBounds$Point"
  | 2 => .object "LeastInBounds$Point"
  | 3 => .array .int
  | 4 => .int
  | 5 => .long
  | 6 => .long
  | 7 => .array (.array .long)
  | 8 => .array .int
  | 9 => .array .int
  | 10 => .int
  | 11 => .int
  | _ => .long
theorem nmX6 : ∀ a, a < 13 → ∀ b, b < 13 → a ≠ b → (TX6 a).2.1 ≠ (TX6 b).2.1 := by decide +kernel
theorem tyX6_ok : ∀ k, k < 13 → parseFieldDescriptor (TX6 k).2.2.1 = some (tyX6 k) := by decide +kernel
abbrev cX6_init : ByteArray := prog_8_method_1_code
def yX6_init : MethodName := ⟨RX6, "<init>", "(LLeastInBounds$Bowl;)V"⟩
abbrev cX6_find : ByteArray := prog_8_method_2_code
def yX6_find : MethodName := ⟨RX6, "find", "(II)I"⟩
abbrev cX6_meet : ByteArray := prog_8_method_3_code
def yX6_meet : MethodName := ⟨RX6, "meet", "(I)Z"⟩
abbrev cX6_gather : ByteArray := prog_8_method_4_code
def yX6_gather : MethodName := ⟨RX6, "gather", "(I)V"⟩
abbrev cX6_fillBowlRows : ByteArray := prog_8_method_5_code
def yX6_fillBowlRows : MethodName := ⟨RX6, "fillBowlRows", "()V"⟩
abbrev cX6_fillLineRows : ByteArray := prog_8_method_6_code
def yX6_fillLineRows : MethodName := ⟨RX6, "fillLineRows", "()V"⟩
abbrev cX6_eliminate : ByteArray := prog_8_method_7_code
def yX6_eliminate : MethodName := ⟨RX6, "eliminate", "()Z"⟩
abbrev cX6_clearRow : ByteArray := prog_8_method_8_code
def yX6_clearRow : MethodName := ⟨RX6, "clearRow", "([J[JIJ)V"⟩
abbrev cX6_layAt : ByteArray := prog_8_method_9_code
def yX6_layAt : MethodName := ⟨RX6, "layAt", "(I)V"⟩
abbrev cX6_fits : ByteArray := prog_8_method_10_code
def yX6_fits : MethodName := ⟨RX6, "fits", "(I)Z"⟩
abbrev cX6_slackOf : ByteArray := prog_8_method_11_code
def yX6_slackOf : MethodName := ⟨RX6, "slackOf", "(I)J"⟩
abbrev cX6_heldLines : ByteArray := prog_8_method_12_code
def yX6_heldLines : MethodName := ⟨RX6, "heldLines", "()I"⟩
abbrev cX6_tightLines : ByteArray := prog_8_method_13_code
def yX6_tightLines : MethodName := ⟨RX6, "tightLines", "()I"⟩
abbrev cX6_twiceWorth : ByteArray := prog_8_method_14_code
def yX6_twiceWorth : MethodName := ⟨RX6, "twiceWorth", "()J"⟩
abbrev cX6_goPath : ByteArray := prog_8_method_15_code
def yX6_goPath : MethodName := ⟨RX6, "goPath", "()Z"⟩
abbrev cX6_changesTo : ByteArray := prog_8_method_16_code
def yX6_changesTo : MethodName := ⟨RX6, "changesTo", "(I)I"⟩
abbrev cX6_claimTides : ByteArray := prog_8_method_17_code
def yX6_claimTides : MethodName := ⟨RX6, "claimTides", "(III)V"⟩
abbrev cX6_findReach : ByteArray := prog_8_method_18_code
def yX6_findReach : MethodName := ⟨RX6, "findReach", "()Z"⟩
abbrev cX6_limitReach : ByteArray := prog_8_method_19_code
def yX6_limitReach : MethodName := ⟨RX6, "limitReach", "(JJ)V"⟩
def RX7 : String := "LeastInBounds"
def TX7 : u_T := fun k => match k with
  | 0 => ("LeastInBounds", "bowl", "LLeastInBounds$Bowl;", true)
  | 1 => ("LeastInBounds", "kept", "LLeastInBounds$Bowl;", true)
  | 2 => ("LeastInBounds", "round", "LLeastInBounds$Bowl;", true)
  | 3 => ("LeastInBounds", "solver", "LLeastInBounds$Solver;", true)
  | 4 => ("LeastInBounds", "nearSolver", "LLeastInBounds$Solver;", true)
  | 5 => ("LeastInBounds", "sheets", "LLeastInBounds$Sheets;", true)
  | 6 => ("LeastInBounds", "certificate", "LLeastInBounds$Certificate;", true)
  | 7 => ("LeastInBounds", "book", "LLeastInBounds$Book;", true)
  | _ => ("LeastInBounds", "hasImage", "Z", false)
def tyX7 : Nat → FieldType := fun k => match k with
  | 0 => .object "LeastInBounds$Bowl"
  | 1 => .object "LeastInBounds$Bowl"
  | 2 => .object "LeastInBounds$Bowl"
  | 3 => .object "LeastInBounds$Solver"
  | 4 => .object "LeastInBounds$Solver"
  | 5 => .object "LeastInBounds$Sheets"
  | 6 => .object "LeastInBounds$Certificate"
  | 7 => .object "LeastInBounds$Book"
  | _ => .boolean
theorem nmX7 : ∀ a, a < 9 → ∀ b, b < 9 → a ≠ b → (TX7 a).2.1 ≠ (TX7 b).2.1 := by decide +kernel
theorem tyX7_ok : ∀ k, k < 9 → parseFieldDescriptor (TX7 k).2.2.1 = some (tyX7 k) := by decide +kernel
abbrev cX7_init : ByteArray := prog_1_method_1_code
def yX7_init : MethodName := ⟨RX7, "<init>", "()V"⟩
abbrev cX7_size : ByteArray := prog_1_method_2_code
def yX7_size : MethodName := ⟨RX7, "size", "(I)I"⟩
abbrev cX7_bend : ByteArray := prog_1_method_3_code
def yX7_bend : MethodName := ⟨RX7, "bend", "(III)I"⟩
abbrev cX7_push : ByteArray := prog_1_method_4_code
def yX7_push : MethodName := ⟨RX7, "push", "(II)I"⟩
abbrev cX7_tide : ByteArray := prog_1_method_5_code
def yX7_tide : MethodName := ⟨RX7, "tide", "(I)I"⟩
abbrev cX7_line : ByteArray := prog_1_method_6_code
def yX7_line : MethodName := ⟨RX7, "line", "(III)I"⟩
abbrev cX7_slope : ByteArray := prog_1_method_7_code
def yX7_slope : MethodName := ⟨RX7, "slope", "(III)I"⟩
abbrev cX7_change : ByteArray := prog_1_method_8_code
def yX7_change : MethodName := ⟨RX7, "change", "(III)I"⟩
abbrev cX7_drop : ByteArray := prog_1_method_9_code
def yX7_drop : MethodName := ⟨RX7, "drop", "(I)I"⟩
abbrev cX7_lineOf : ByteArray := prog_1_method_10_code
def yX7_lineOf : MethodName := ⟨RX7, "lineOf", "(II)I"⟩
abbrev cX7_minor : ByteArray := prog_1_method_11_code
def yX7_minor : MethodName := ⟨RX7, "minor", "(I)I"⟩
abbrev cX7_isProper : ByteArray := prog_1_method_12_code
def yX7_isProper : MethodName := ⟨RX7, "isProper", "()I"⟩
abbrev cX7_working : ByteArray := prog_1_method_13_code
def yX7_working : MethodName := ⟨RX7, "working", "(I)I"⟩
abbrev cX7_answer : ByteArray := prog_1_method_14_code
def yX7_answer : MethodName := ⟨RX7, "answer", "(III)J"⟩
abbrev cX7_worth : ByteArray := prog_1_method_15_code
def yX7_worth : MethodName := ⟨RX7, "worth", "(II)J"⟩
abbrev cX7_weight : ByteArray := prog_1_method_16_code
def yX7_weight : MethodName := ⟨RX7, "weight", "(III)J"⟩
abbrev cX7_slack : ByteArray := prog_1_method_17_code
def yX7_slack : MethodName := ⟨RX7, "slack", "(III)J"⟩
abbrev cX7_held : ByteArray := prog_1_method_18_code
def yX7_held : MethodName := ⟨RX7, "held", "(I)I"⟩
abbrev cX7_tight : ByteArray := prog_1_method_19_code
def yX7_tight : MethodName := ⟨RX7, "tight", "(I)I"⟩
abbrev cX7_steps : ByteArray := prog_1_method_20_code
def yX7_steps : MethodName := ⟨RX7, "steps", "()I"⟩
abbrev cX7_walk : ByteArray := prog_1_method_21_code
def yX7_walk : MethodName := ⟨RX7, "walk", "(I)I"⟩
abbrev cX7_pieces : ByteArray := prog_1_method_22_code
def yX7_pieces : MethodName := ⟨RX7, "pieces", "(I)I"⟩
abbrev cX7_reach : ByteArray := prog_1_method_23_code
def yX7_reach : MethodName := ⟨RX7, "reach", "(I)J"⟩
abbrev cX7_nearest : ByteArray := prog_1_method_24_code
def yX7_nearest : MethodName := ⟨RX7, "nearest", "(IIIII)J"⟩
abbrev cX7_distance : ByteArray := prog_1_method_25_code
def yX7_distance : MethodName := ⟨RX7, "distance", "(IIII)J"⟩
abbrev cX7_certify : ByteArray := prog_1_method_26_code
def yX7_certify : MethodName := ⟨RX7, "certify", "(I)I"⟩
abbrev cX7_check : ByteArray := prog_1_method_27_code
def yX7_check : MethodName := ⟨RX7, "check", "(I)I"⟩
abbrev cX7_solve : ByteArray := prog_1_method_28_code
def yX7_solve : MethodName := ⟨RX7, "solve", "()I"⟩
abbrev cX7_notes : ByteArray := prog_1_method_29_code
def yX7_notes : MethodName := ⟨RX7, "notes", "()I"⟩
abbrev cX7_mark : ByteArray := prog_1_method_30_code
def yX7_mark : MethodName := ⟨RX7, "mark", "()J"⟩
abbrev cX7_trail : ByteArray := prog_1_method_31_code
def yX7_trail : MethodName := ⟨RX7, "trail", "(I)I"⟩
abbrev cX7_least : ByteArray := prog_1_method_32_code
def yX7_least : MethodName := ⟨RX7, "least", "(I)J"⟩
abbrev cX7_sheet : ByteArray := prog_1_method_33_code
def yX7_sheet : MethodName := ⟨RX7, "sheet", "(III)I"⟩
abbrev cX7_cell : ByteArray := prog_1_method_34_code
def yX7_cell : MethodName := ⟨RX7, "cell", "(IIJ)I"⟩
abbrev cX7_read : ByteArray := prog_1_method_35_code
def yX7_read : MethodName := ⟨RX7, "read", "(II)J"⟩
abbrev cX7_copy : ByteArray := prog_1_method_36_code
def yX7_copy : MethodName := ⟨RX7, "copy", "(IIIII)I"⟩
abbrev cX7_image : ByteArray := prog_1_method_37_code
def yX7_image : MethodName := ⟨RX7, "image", "()I"⟩
abbrev cX7_back : ByteArray := prog_1_method_38_code
def yX7_back : MethodName := ⟨RX7, "back", "()I"⟩
abbrev cX7_count : ByteArray := prog_1_method_39_code
def yX7_count : MethodName := ⟨RX7, "count", "(I)I"⟩
abbrev cX7_isVariable : ByteArray := prog_1_method_40_code
def yX7_isVariable : MethodName := ⟨RX7, "isVariable", "(I)Z"⟩
abbrev cX7_isLine : ByteArray := prog_1_method_41_code
def yX7_isLine : MethodName := ⟨RX7, "isLine", "(I)Z"⟩
abbrev cX7_isSet : ByteArray := prog_1_method_42_code
def yX7_isSet : MethodName := ⟨RX7, "isSet", "(I)Z"⟩
abbrev cX7_isOf : ByteArray := prog_1_method_43_code
def yX7_isOf : MethodName := ⟨RX7, "isOf", "(II)Z"⟩
abbrev cX7_isPart : ByteArray := prog_1_method_44_code
def yX7_isPart : MethodName := ⟨RX7, "isPart", "(I)Z"⟩
abbrev cX7_isSheet : ByteArray := prog_1_method_45_code
def yX7_isSheet : MethodName := ⟨RX7, "isSheet", "(I)Z"⟩
abbrev cX7_isKind : ByteArray := prog_1_method_46_code
def yX7_isKind : MethodName := ⟨RX7, "isKind", "(I)Z"⟩
abbrev cX7_isWithin : ByteArray := prog_1_method_47_code
def yX7_isWithin : MethodName := ⟨RX7, "isWithin", "(II)Z"⟩
abbrev cX7_isBend : ByteArray := prog_1_method_48_code
def yX7_isBend : MethodName := ⟨RX7, "isBend", "(ZI)Z"⟩
abbrev cX7_isChange : ByteArray := prog_1_method_49_code
def yX7_isChange : MethodName := ⟨RX7, "isChange", "(II)Z"⟩
abbrev cX7_refusedCell : ByteArray := prog_1_method_50_code
def yX7_refusedCell : MethodName := ⟨RX7, "refusedCell", "(II)I"⟩
abbrev cX7_find : ByteArray := prog_1_method_51_code
def yX7_find : MethodName := ⟨RX7, "find", "(ZI)I"⟩
abbrev cX7_findNear : ByteArray := prog_1_method_52_code
def yX7_findNear : MethodName := ⟨RX7, "findNear", "(ZIII)I"⟩
def RX8 : String := "LeastInBoundsModel"
def TX8 : u_T := fun k => match k with
  | 0 => ("LeastInBoundsModel", "n", "I", false)
  | 1 => ("LeastInBoundsModel", "bends", "[I", true)
  | 2 => ("LeastInBoundsModel", "pushes", "[I", true)
  | 3 => ("LeastInBoundsModel", "tide", "I", false)
  | 4 => ("LeastInBoundsModel", "lines", "I", false)
  | 5 => ("LeastInBoundsModel", "told", "[I", true)
  | 6 => ("LeastInBoundsModel", "isKept", "Z", false)
  | 7 => ("LeastInBoundsModel", "kept", "[I", true)
  | 8 => ("LeastInBoundsModel", "notes", "I", false)
  | 9 => ("LeastInBoundsModel", "mark", "J", false)
  | 10 => ("LeastInBoundsModel", "trail", "[I", true)
  | 11 => ("LeastInBoundsModel", "leastAbove", "J", false)
  | 12 => ("LeastInBoundsModel", "leastBelow", "J", false)
  | 13 => ("LeastInBoundsModel", "rows", "I", false)
  | 14 => ("LeastInBoundsModel", "cells", "[J", true)
  | 15 => ("LeastInBoundsModel", "partly", "[J", true)
  | 16 => ("LeastInBoundsModel", "x", "[J", true)
  | 17 => ("LeastInBoundsModel", "y", "[J", true)
  | 18 => ("LeastInBoundsModel", "below", "J", false)
  | 19 => ("LeastInBoundsModel", "xRise", "[J", true)
  | 20 => ("LeastInBoundsModel", "yRise", "[J", true)
  | 21 => ("LeastInBoundsModel", "some", "[I", true)
  | 22 => ("LeastInBoundsModel", "right", "[J", true)
  | 23 => ("LeastInBoundsModel", "walked", "[I", true)
  | 24 => ("LeastInBoundsModel", "walkMany", "I", false)
  | 25 => ("LeastInBoundsModel", "isBound", "Z", false)
  | 26 => ("LeastInBoundsModel", "reachAbove", "J", false)
  | 27 => ("LeastInBoundsModel", "reachBelow", "J", false)
  | 28 => ("LeastInBoundsModel", "aside", "[I", true)
  | 29 => ("LeastInBoundsModel", "nearWorth", "J", false)
  | 30 => ("LeastInBoundsModel", "sorts", "[I", true)
  | 31 => ("LeastInBoundsModel", "sizes", "[I", true)
  | _ => ("LeastInBoundsModel", "numbers", "[J", true)
def tyX8 : Nat → FieldType := fun k => match k with
  | 0 => .int
  | 1 => .array .int
  | 2 => .array .int
  | 3 => .int
  | 4 => .int
  | 5 => .array .int
  | 6 => .boolean
  | 7 => .array .int
  | 8 => .int
  | 9 => .long
  | 10 => .array .int
  | 11 => .long
  | 12 => .long
  | 13 => .int
  | 14 => .array .long
  | 15 => .array .long
  | 16 => .array .long
  | 17 => .array .long
  | 18 => .long
  | 19 => .array .long
  | 20 => .array .long
  | 21 => .array .int
  | 22 => .array .long
  | 23 => .array .int
  | 24 => .int
  | 25 => .boolean
  | 26 => .long
  | 27 => .long
  | 28 => .array .int
  | 29 => .long
  | 30 => .array .int
  | 31 => .array .int
  | _ => .array .long
theorem nmX8 : ∀ a, a < 33 → ∀ b, b < 33 → a ≠ b → (TX8 a).2.1 ≠ (TX8 b).2.1 := by decide +kernel
theorem tyX8_ok : ∀ k, k < 33 → parseFieldDescriptor (TX8 k).2.2.1 = some (tyX8 k) := by decide +kernel
abbrev cX8_init : ByteArray := prog_10_method_1_code
def yX8_init : MethodName := ⟨RX8, "<init>", "()V"⟩
abbrev cX8_in : ByteArray := prog_10_method_2_code
def yX8_in : MethodName := ⟨RX8, "in", "(JJJ)Z"⟩
abbrev cX8_has : ByteArray := prog_10_method_3_code
def yX8_has : MethodName := ⟨RX8, "has", "(II)Z"⟩
abbrev cX8_isPart : ByteArray := prog_10_method_4_code
def yX8_isPart : MethodName := ⟨RX8, "isPart", "(I)Z"⟩
abbrev cX8_refused : ByteArray := prog_10_method_5_code
def yX8_refused : MethodName := ⟨RX8, "refused", "(I)J"⟩
abbrev cX8_divisor : ByteArray := prog_10_method_6_code
def yX8_divisor : MethodName := ⟨RX8, "divisor", "(JJ)J"⟩
abbrev cX8_lowest : ByteArray := prog_10_method_7_code
def yX8_lowest : MethodName := ⟨RX8, "lowest", "(JJI)J"⟩
abbrev cX8_isLess : ByteArray := prog_10_method_8_code
def yX8_isLess : MethodName := ⟨RX8, "isLess", "(JJJJ)Z"⟩
abbrev cX8_isVariable : ByteArray := prog_10_method_9_code
def yX8_isVariable : MethodName := ⟨RX8, "isVariable", "(I)Z"⟩
abbrev cX8_isLine : ByteArray := prog_10_method_10_code
def yX8_isLine : MethodName := ⟨RX8, "isLine", "(I)Z"⟩
abbrev cX8_isSet : ByteArray := prog_10_method_11_code
def yX8_isSet : MethodName := ⟨RX8, "isSet", "(I)Z"⟩
abbrev cX8_all : ByteArray := prog_10_method_12_code
def yX8_all : MethodName := ⟨RX8, "all", "()I"⟩
abbrev cX8_size : ByteArray := prog_10_method_13_code
def yX8_size : MethodName := ⟨RX8, "size", "(I)I"⟩
abbrev cX8_bend : ByteArray := prog_10_method_14_code
def yX8_bend : MethodName := ⟨RX8, "bend", "(III)I"⟩
abbrev cX8_push : ByteArray := prog_10_method_15_code
def yX8_push : MethodName := ⟨RX8, "push", "(II)I"⟩
abbrev cX8_tide : ByteArray := prog_10_method_16_code
def yX8_tide : MethodName := ⟨RX8, "tide", "(I)I"⟩
abbrev cX8_line : ByteArray := prog_10_method_17_code
def yX8_line : MethodName := ⟨RX8, "line", "(III)I"⟩
abbrev cX8_becomes : ByteArray := prog_10_method_18_code
def yX8_becomes : MethodName := ⟨RX8, "becomes", "(II)I"⟩
abbrev cX8_slope : ByteArray := prog_10_method_19_code
def yX8_slope : MethodName := ⟨RX8, "slope", "(III)I"⟩
abbrev cX8_change : ByteArray := prog_10_method_20_code
def yX8_change : MethodName := ⟨RX8, "change", "(III)I"⟩
abbrev cX8_drop : ByteArray := prog_10_method_21_code
def yX8_drop : MethodName := ⟨RX8, "drop", "(I)I"⟩
abbrev cX8_row : ByteArray := prog_10_method_22_code
def yX8_row : MethodName := ⟨RX8, "row", "(II)I"⟩
abbrev cX8_bound : ByteArray := prog_10_method_23_code
def yX8_bound : MethodName := ⟨RX8, "bound", "(I)I"⟩
abbrev cX8_rise : ByteArray := prog_10_method_24_code
def yX8_rise : MethodName := ⟨RX8, "rise", "(I)I"⟩
abbrev cX8_isOn : ByteArray := prog_10_method_25_code
def yX8_isOn : MethodName := ⟨RX8, "isOn", "(I)Z"⟩
abbrev cX8_lineOf : ByteArray := prog_10_method_26_code
def yX8_lineOf : MethodName := ⟨RX8, "lineOf", "(II)I"⟩
abbrev cX8_determinant : ByteArray := prog_10_method_27_code
def yX8_determinant : MethodName := ⟨RX8, "determinant", "()J"⟩
abbrev cX8_minorOf : ByteArray := prog_10_method_28_code
def yX8_minorOf : MethodName := ⟨RX8, "minorOf", "(I)I"⟩
abbrev cX8_minor : ByteArray := prog_10_method_29_code
def yX8_minor : MethodName := ⟨RX8, "minor", "(I)I"⟩
abbrev cX8_proper : ByteArray := prog_10_method_30_code
def yX8_proper : MethodName := ⟨RX8, "proper", "()Z"⟩
abbrev cX8_isProper : ByteArray := prog_10_method_31_code
def yX8_isProper : MethodName := ⟨RX8, "isProper", "()I"⟩
abbrev cX8_laysCells : ByteArray := prog_10_method_32_code
def yX8_laysCells : MethodName := ⟨RX8, "laysCells", "(I)V"⟩
abbrev cX8_instead : ByteArray := prog_10_method_33_code
def yX8_instead : MethodName := ⟨RX8, "instead", "(I)J"⟩
abbrev cX8_laysSome : ByteArray := prog_10_method_34_code
def yX8_laysSome : MethodName := ⟨RX8, "laysSome", "(I)I"⟩
abbrev cX8_tells : ByteArray := prog_10_method_35_code
def yX8_tells : MethodName := ⟨RX8, "tells", "([J[JIZ)V"⟩
abbrev cX8_finds : ByteArray := prog_10_method_36_code
def yX8_finds : MethodName := ⟨RX8, "finds", "(I)Z"⟩
abbrev cX8_findsRise : ByteArray := prog_10_method_37_code
def yX8_findsRise : MethodName := ⟨RX8, "findsRise", "(I)V"⟩
abbrev cX8_slackOf : ByteArray := prog_10_method_38_code
def yX8_slackOf : MethodName := ⟨RX8, "slackOf", "(I)J"⟩
abbrev cX8_holds : ByteArray := prog_10_method_39_code
def yX8_holds : MethodName := ⟨RX8, "holds", "(I)Z"⟩
abbrev cX8_isRight : ByteArray := prog_10_method_40_code
def yX8_isRight : MethodName := ⟨RX8, "isRight", "(I)Z"⟩
abbrev cX8_works : ByteArray := prog_10_method_41_code
def yX8_works : MethodName := ⟨RX8, "works", "(I)I"⟩
abbrev cX8_working : ByteArray := prog_10_method_42_code
def yX8_working : MethodName := ⟨RX8, "working", "(I)I"⟩
abbrev cX8_lacks : ByteArray := prog_10_method_43_code
def yX8_lacks : MethodName := ⟨RX8, "lacks", "(IZ)I"⟩
abbrev cX8_answer : ByteArray := prog_10_method_44_code
def yX8_answer : MethodName := ⟨RX8, "answer", "(III)J"⟩
abbrev cX8_worthOf : ByteArray := prog_10_method_45_code
def yX8_worthOf : MethodName := ⟨RX8, "worthOf", "()J"⟩
abbrev cX8_worth : ByteArray := prog_10_method_46_code
def yX8_worth : MethodName := ⟨RX8, "worth", "(II)J"⟩
abbrev cX8_weight : ByteArray := prog_10_method_47_code
def yX8_weight : MethodName := ⟨RX8, "weight", "(III)J"⟩
abbrev cX8_slack : ByteArray := prog_10_method_48_code
def yX8_slack : MethodName := ⟨RX8, "slack", "(III)J"⟩
abbrev cX8_heldNow : ByteArray := prog_10_method_49_code
def yX8_heldNow : MethodName := ⟨RX8, "heldNow", "()I"⟩
abbrev cX8_held : ByteArray := prog_10_method_50_code
def yX8_held : MethodName := ⟨RX8, "held", "(I)I"⟩
abbrev cX8_tight : ByteArray := prog_10_method_51_code
def yX8_tight : MethodName := ⟨RX8, "tight", "(I)I"⟩
abbrev cX8_walks : ByteArray := prog_10_method_52_code
def yX8_walks : MethodName := ⟨RX8, "walks", "()Z"⟩
abbrev cX8_steps : ByteArray := prog_10_method_53_code
def yX8_steps : MethodName := ⟨RX8, "steps", "()I"⟩
abbrev cX8_walk : ByteArray := prog_10_method_54_code
def yX8_walk : MethodName := ⟨RX8, "walk", "(I)I"⟩
abbrev cX8_pieces : ByteArray := prog_10_method_55_code
def yX8_pieces : MethodName := ⟨RX8, "pieces", "(I)I"⟩
abbrev cX8_bounds : ByteArray := prog_10_method_56_code
def yX8_bounds : MethodName := ⟨RX8, "bounds", "(JJ)V"⟩
abbrev cX8_reach : ByteArray := prog_10_method_57_code
def yX8_reach : MethodName := ⟨RX8, "reach", "(I)J"⟩
abbrev cX8_isNear : ByteArray := prog_10_method_58_code
def yX8_isNear : MethodName := ⟨RX8, "isNear", "([I)Z"⟩
abbrev cX8_isPlace : ByteArray := prog_10_method_59_code
def yX8_isPlace : MethodName := ⟨RX8, "isPlace", "(III)Z"⟩
abbrev cX8_nearest : ByteArray := prog_10_method_60_code
def yX8_nearest : MethodName := ⟨RX8, "nearest", "(IIIII)J"⟩
abbrev cX8_distance : ByteArray := prog_10_method_61_code
def yX8_distance : MethodName := ⟨RX8, "distance", "(IIII)J"⟩
abbrev cX8_certify : ByteArray := prog_10_method_62_code
def yX8_certify : MethodName := ⟨RX8, "certify", "(I)I"⟩
abbrev cX8_isStill : ByteArray := prog_10_method_63_code
def yX8_isStill : MethodName := ⟨RX8, "isStill", "()Z"⟩
abbrev cX8_check : ByteArray := prog_10_method_64_code
def yX8_check : MethodName := ⟨RX8, "check", "(I)I"⟩
abbrev cX8_solve : ByteArray := prog_10_method_65_code
def yX8_solve : MethodName := ⟨RX8, "solve", "()I"⟩
abbrev cX8_notes : ByteArray := prog_10_method_66_code
def yX8_notes : MethodName := ⟨RX8, "notes", "()I"⟩
abbrev cX8_mark : ByteArray := prog_10_method_67_code
def yX8_mark : MethodName := ⟨RX8, "mark", "()J"⟩
abbrev cX8_trail : ByteArray := prog_10_method_68_code
def yX8_trail : MethodName := ⟨RX8, "trail", "(I)I"⟩
abbrev cX8_least : ByteArray := prog_10_method_69_code
def yX8_least : MethodName := ⟨RX8, "least", "(I)J"⟩
abbrev cX8_isSheet : ByteArray := prog_10_method_70_code
def yX8_isSheet : MethodName := ⟨RX8, "isSheet", "(I)Z"⟩
abbrev cX8_becomesRow : ByteArray := prog_10_method_71_code
def yX8_becomesRow : MethodName := ⟨RX8, "becomesRow", "(III)V"⟩
abbrev cX8_sheet : ByteArray := prog_10_method_72_code
def yX8_sheet : MethodName := ⟨RX8, "sheet", "(III)I"⟩
abbrev cX8_wrong : ByteArray := prog_10_method_73_code
def yX8_wrong : MethodName := ⟨RX8, "wrong", "(II)I"⟩
abbrev cX8_cell : ByteArray := prog_10_method_74_code
def yX8_cell : MethodName := ⟨RX8, "cell", "(IIJ)I"⟩
abbrev cX8_read : ByteArray := prog_10_method_75_code
def yX8_read : MethodName := ⟨RX8, "read", "(II)J"⟩
abbrev cX8_copy : ByteArray := prog_10_method_76_code
def yX8_copy : MethodName := ⟨RX8, "copy", "(IIIII)I"⟩
abbrev cX8_image : ByteArray := prog_10_method_77_code
def yX8_image : MethodName := ⟨RX8, "image", "()I"⟩
abbrev cX8_back : ByteArray := prog_10_method_78_code
def yX8_back : MethodName := ⟨RX8, "back", "()I"⟩
abbrev cX8_count : ByteArray := prog_10_method_79_code
def yX8_count : MethodName := ⟨RX8, "count", "(I)I"⟩
def RJ6 : String := "java/lang/Integer"
def TJ6 : u_T := fun k => match k with
  | _ => ("", "", "", false)
def tyJ6 : Nat → FieldType := fun k => match k with
  | _ => .int
theorem nmJ6 : ∀ a, a < 0 → ∀ b, b < 0 → a ≠ b → (TJ6 a).2.1 ≠ (TJ6 b).2.1 := by decide +kernel
theorem tyJ6_ok : ∀ k, k < 0 → parseFieldDescriptor (TJ6 k).2.2.1 = some (tyJ6 k) := by decide +kernel
abbrev cJ6_bitCount_0f7a4 : ByteArray := prog_11_method_49_code
def yJ6_bitCount_0f7a4 : MethodName := ⟨RJ6, "bitCount", "(I)I"⟩
def RJ9 : String := "java/lang/Math"
def TJ9 : u_T := fun k => match k with
  | _ => ("", "", "", false)
def tyJ9 : Nat → FieldType := fun k => match k with
  | _ => .int
theorem nmJ9 : ∀ a, a < 0 → ∀ b, b < 0 → a ≠ b → (TJ9 a).2.1 ≠ (TJ9 b).2.1 := by decide +kernel
theorem tyJ9_ok : ∀ k, k < 0 → parseFieldDescriptor (TJ9 k).2.2.1 = some (tyJ9 k) := by decide +kernel
abbrev cJ9_floorDiv_f86c9 : ByteArray := prog_12_method_49_code
def yJ9_floorDiv_f86c9 : MethodName := ⟨RJ9, "floorDiv", "(JJ)J"⟩
abbrev cJ9_abs_067f4 : ByteArray := prog_12_method_61_code
def yJ9_abs_067f4 : MethodName := ⟨RJ9, "abs", "(J)J"⟩
def RJ10 : String := "java/lang/System"
def TJ10 : u_T := fun k => match k with
  | _ => ("", "", "", false)
def tyJ10 : Nat → FieldType := fun k => match k with
  | _ => .int
theorem nmJ10 : ∀ a, a < 0 → ∀ b, b < 0 → a ≠ b → (TJ10 a).2.1 ≠ (TJ10 b).2.1 := by decide +kernel
theorem tyJ10_ok : ∀ k, k < 0 → parseFieldDescriptor (TJ10 k).2.2.1 = some (tyJ10 k) := by decide +kernel
def RJ7 : String := "java/util/Arrays"
def TJ7 : u_T := fun k => match k with
  | _ => ("", "", "", false)
def tyJ7 : Nat → FieldType := fun k => match k with
  | _ => .int
theorem nmJ7 : ∀ a, a < 0 → ∀ b, b < 0 → a ≠ b → (TJ7 a).2.1 ≠ (TJ7 b).2.1 := by decide +kernel
theorem tyJ7_ok : ∀ k, k < 0 → parseFieldDescriptor (TJ7 k).2.2.1 = some (tyJ7 k) := by decide +kernel
abbrev cJ7_fill_d0a16 : ByteArray := prog_14_method_101_code
def yJ7_fill_d0a16 : MethodName := ⟨RJ7, "fill", "([JJ)V"⟩
abbrev cJ7_fill_53178 : ByteArray := prog_14_method_103_code
def yJ7_fill_53178 : MethodName := ⟨RJ7, "fill", "([II)V"⟩
def RL : String := "LeastInBoundsLaw"
abbrev cL_law : ByteArray := code
def yL_law : MethodName := ⟨RL, "law", "([I)Z"⟩
end
section
/-! THE LAYER AW: all cells that the law's run makes, by number; ints and longs in two memories I, J (cell, place); a method's walk without heaps, rooms and frames -/
def aw_tbl : List Cond := lw_tbl.filter goodWord
theorem aw_tbl_sub {w : Cond} (h : w ∈ aw_tbl) : w ∈ lw_tbl := (List.mem_filter.mp h).1
theorem aw_tbl_good {w : Cond} (h : w ∈ aw_tbl) : goodWord w = true := (List.mem_filter.mp h).2
theorem aw_goodIn {ws : List Cond} (h : ∀ w ∈ ws, w ∈ aw_tbl) : GoodIn aw_tbl ws := fun w hw => ⟨h w hw, good_of_word (aw_tbl_good (h w hw))⟩
abbrev classes : List vw_C := [(RX0, TX0, 5), (RX1, TX1, 9), (RX2, TX2, 2), (RX4, TX4, 3), (RX5, TX5, 3), (RX6, TX6, 13), (RX7, TX7, 9), (RX8, TX8, 33)]
/-- the kinds of a class's fields: 0 int, 1 long, 2 a reference, 3 boolean -/
def aw_kd : FieldType → Nat
  | .int => 0
  | .long => 1
  | .boolean => 3
  | _ => 2
def aw_fty : Nat → List Nat
  | 0 => (List.range 5).map (fun k => aw_kd (tyX0 k))
  | 1 => (List.range 9).map (fun k => aw_kd (tyX1 k))
  | 2 => (List.range 2).map (fun k => aw_kd (tyX2 k))
  | 3 => (List.range 3).map (fun k => aw_kd (tyX4 k))
  | 4 => (List.range 3).map (fun k => aw_kd (tyX5 k))
  | 5 => (List.range 13).map (fun k => aw_kd (tyX6 k))
  | 6 => (List.range 9).map (fun k => aw_kd (tyX7 k))
  | _ => (List.range 33).map (fun k => aw_kd (tyX8 k))
/-- a cell's shape: an object of class number ci, or an array: (0, n) of ints, (1, n) of longs, (2, n) of references -/
abbrev aw_S : Type := Nat ⊕ (Nat × Nat)
/-- the world: shapes, references, how many cells -/
abbrev aw_O : Type := (Nat → aw_S) × (Nat → Nat → Option Nat) × Nat
def aw_sh (Ω : aw_O) (i : Nat) : aw_S := Ω.1 i
def aw_P (Ω : aw_O) (i k : Nat) : Option Nat := Ω.2.1 i k
def aw_nx (Ω : aw_O) : Nat := Ω.2.2
/-- the launch, class numbers and slots, the classes of int[], long[], long[][], the first address -/
abbrev aw_G : Type := Launch × va_G × ClassId × ClassId × ClassId × Nat
abbrev aw_l (G : aw_G) : Launch := G.1
abbrev aw_D (G : aw_G) : va_G := G.2.1
abbrev aw_cI (G : aw_G) : ClassId := G.2.2.1
abbrev aw_cJ (G : aw_G) : ClassId := G.2.2.2.1
abbrev aw_cR (G : aw_G) : ClassId := G.2.2.2.2.1
abbrev aw_bs (G : aw_G) : Nat := G.2.2.2.2.2
def aw_ad (G : aw_G) (i : Nat) : Nat := aw_bs G + i
abbrev aw_A (G : aw_G) : Nat → Prop := fun q => aw_bs G ≤ q
abbrev aw_MI : Type := Nat → Nat → Int32
abbrev aw_MJ : Type := Nat → Nat → Int64
abbrev aw_tys (G : aw_G) : List (ClassId × FieldType) := [(aw_cI G, .int), (aw_cJ G, .long), (aw_cR G, .array .long)]
def aw_val (G : aw_G) (Ω : aw_O) (I : aw_MI) (J : aw_MJ) (i k t : Nat) : Value := if t = 1 then .long (J i k) else if t = 2 then va_rf ((aw_P Ω i k).map (aw_ad G)) else .int (I i k)
def aw_fl (f : Nat → Nat → Value) : Nat → List Nat → List Value
  | _, [] => []
  | k, t :: ts => f k t :: aw_fl f (k + 1) ts
theorem aw_fl_get (f : Nat → Nat → Value) : ∀ (ts : List Nat) (s k t : Nat), ts[k]? = some t → (aw_fl f s ts)[k]? = some (f (s + k) t)
  | [], s, k, t, h => by simp at h
  | a :: ts, s, 0, t, h => by
    simp at h
    subst h
    simp [aw_fl]
  | a :: ts, s, k + 1, t, h => by
    simp only [List.getElem?_cons_succ] at h
    simp only [aw_fl, List.getElem?_cons_succ]
    rw [aw_fl_get f ts (s + 1) k t h]
    congr 2
    omega
theorem aw_fl_len (f : Nat → Nat → Value) : ∀ (ts : List Nat) (s : Nat), (aw_fl f s ts).length = ts.length
  | [], _ => rfl
  | a :: ts, s => by simp [aw_fl, aw_fl_len f ts (s + 1)]
theorem aw_fl_congr (f g : Nat → Nat → Value) : ∀ (ts : List Nat) (s : Nat), (∀ j t', s ≤ j → f j t' = g j t') → aw_fl f s ts = aw_fl g s ts
  | [], _, _ => rfl
  | a :: ts, s, h => by
    simp only [aw_fl]
    rw [h s a (Nat.le_refl s), aw_fl_congr f g ts (s + 1) (fun j t' hj => h j t' (by omega))]
theorem aw_fl_set (f g : Nat → Nat → Value) : ∀ (ts : List Nat) (s k t : Nat), ts[k]? = some t → (∀ j t', j ≠ s + k → g j t' = f j t') → (aw_fl f s ts).set k (g (s + k) t) = aw_fl g s ts
  | [], s, k, t, h, _ => by simp at h
  | a :: ts, s, 0, t, h, hg => by
    simp at h
    subst h
    simp only [aw_fl, List.set_cons_zero]
    congr 1
    exact aw_fl_congr f g ts (s + 1) (fun j t' hj => (hg j t' (by omega)).symm)
  | a :: ts, s, k + 1, t, h, hg => by
    simp only [List.getElem?_cons_succ] at h
    simp only [aw_fl, List.set_cons_succ]
    have e : s + (k + 1) = (s + 1) + k := by omega
    rw [e, aw_fl_set f g ts (s + 1) k t h (fun j t' hj => hg j t' (by omega)), hg s a (by omega)]
def aw_E (G : aw_G) (Ω : aw_O) (I : aw_MI) (J : aw_MJ) (i : Nat) : va_E := match aw_sh Ω i with
  | .inl ci => .inr (ci, aw_fl (aw_val G Ω I J i) 0 (aw_fty ci))
  | .inr (0, n) => .inl (aw_cI G, n, .inl (I i))
  | .inr (1, n) => .inl (aw_cJ G, n, .inr (.inl (J i)))
  | .inr (_, n) => .inl (aw_cR G, n, .inr (.inr (.inr (.inr (fun k => (aw_P Ω i k).map (aw_ad G))))))
def aw_ws (G : aw_G) (Ω : aw_O) (I : aw_MI) (J : aw_MJ) : va_W := (List.range (aw_nx Ω)).map (fun i => (aw_ad G i, aw_E G Ω I J i))
theorem aw_at {G : aw_G} {Ω : aw_O} {I : aw_MI} {J : aw_MJ} {i : Nat} (h : i < aw_nx Ω) : (aw_ws G Ω I J)[i]? = some (aw_ad G i, aw_E G Ω I J i) := by
  simp [aw_ws, h]
theorem aw_set {G : aw_G} {Ω : aw_O} {I I' : aw_MI} {J J' : aw_MJ} {i : Nat} {e : va_E} (he : e = aw_E G Ω I' J' i) (ho : ∀ j, j ≠ i → aw_E G Ω I' J' j = aw_E G Ω I J j) : (aw_ws G Ω I J).set i (aw_ad G i, e) = aw_ws G Ω I' J' := by
  apply List.ext_getElem?
  intro j
  by_cases hj : j < aw_nx Ω
  · by_cases hji : j = i
    · subst hji
      rw [List.getElem?_set_self (by simp [aw_ws, hj]), aw_at hj, he]
    · rw [List.getElem?_set_ne (Ne.symm hji), aw_at hj, aw_at hj, ho j hji]
  · rw [List.getElem?_eq_none (by simp [aw_ws]; omega), List.getElem?_eq_none (by simp [aw_ws]; omega)]
/-- a place of a memory gets another number -/
def aw_up {α : Type} (I : Nat → Nat → α) (i j : Nat) (x : α) : Nat → Nat → α := fun a k => if a = i ∧ k = j then x else I a k
theorem aw_up_self {α : Type} (I : Nat → Nat → α) (i j : Nat) (x : α) : aw_up I i j x i j = x := by simp [aw_up]
theorem aw_up_ne {α : Type} (I : Nat → Nat → α) {i j a k : Nat} (x : α) (h : a ≠ i ∨ k ≠ j) : aw_up I i j x a k = I a k := by
  unfold aw_up
  rw [if_neg]
  rintro ⟨h1, h2⟩
  rcases h with h | h
  · exact h h1
  · exact h h2
theorem aw_up_off {α : Type} (I : Nat → Nat → α) {i j a : Nat} (x : α) (h : a ≠ i) : aw_up I i j x a = I a := funext fun k => aw_up_ne I x (Or.inl h)
/-- n numbers of cell s from place sp on go to cell t from place dp on -/
def aw_cp {α : Type} (I : Nat → Nat → α) (s t sp dp n : Nat) : Nat → Nat → α := fun a k => if a = t ∧ dp ≤ k ∧ k < dp + n then I s (sp + (k - dp)) else I a k
theorem aw_cp_off {α : Type} (I : Nat → Nat → α) {s t sp dp n a : Nat} (h : a ≠ t) : aw_cp I s t sp dp n a = I a := funext fun k => by
  unfold aw_cp
  rw [if_neg]
  exact fun q => h q.1
/-- what is known of the tables -/
def aw_nest : List Cond := [.methodLinkNest RX7 9 yX1_init RX7, .methodLinkNest RX7 50 yX0_init RX7, .methodLinkNest RX6 11 yX4_init RX7, .methodLinkNest RX2 11 yX4_init RX7]
def aw_K (G : aw_G) (U : State) : Prop := va_K (aw_D G) classes (aw_tys G) U ∧ (∀ w ∈ aw_nest, va_Nw w U) ∧ (Cond.arrayOver (.array .long)).before #[] U = true
def aw_R (G : aw_G) (Ω : aw_O) (I : aw_MI) (J : aw_MJ) (H : Heap) : Prop := va_P (aw_D G) classes (aw_ws G Ω I J) H ∧ H.size = aw_bs G + aw_nx Ω
/-- a method: its name, code, locals, what it returns, scripts that it was given -/
abbrev aw_M : Type := MethodName × ByteArray × Nat × Option FieldType × List (Nat × Nat × (Nat → Int32))
abbrev aw_y (M : aw_M) : MethodName := M.1
abbrev aw_cc (M : aw_M) : ByteArray := M.2.1
abbrev aw_nL (M : aw_M) : Nat := M.2.2.1
abbrev aw_rt (M : aw_M) : Option FieldType := M.2.2.2.1
abbrev aw_scr (M : aw_M) : List (Nat × Nat × (Nat → Int32)) := M.2.2.2.2
/-- locals by their places; .null: nothing known -/
def aw_al : Nat → List Value → List (Nat × Value)
  | _, [] => []
  | i, v :: r => if v = .null then aw_al (i + 1) r else (i, v) :: aw_al (i + 1) r
theorem aw_al_mem : ∀ (l : List Value) (s j : Nat) (w : Value), (j, w) ∈ aw_al s l ↔ s ≤ j ∧ l[j - s]? = some w ∧ w ≠ .null
  | [], s, j, w => by simp [aw_al]
  | v :: r, s, j, w => by
    have ih := aw_al_mem r (s + 1) j w
    by_cases hv : v = .null
    · simp only [aw_al, hv, if_true, ih]
      constructor
      · rintro ⟨h1, h2, h3⟩
        refine ⟨by omega, ?_, h3⟩
        rw [show j - s = (j - (s + 1)) + 1 by omega, List.getElem?_cons_succ]
        exact h2
      · rintro ⟨h1, h2, h3⟩
        by_cases hj : j = s
        · subst hj
          simp at h2
          exact absurd h2.symm h3
        · refine ⟨by omega, ?_, h3⟩
          rw [show j - s = (j - (s + 1)) + 1 by omega, List.getElem?_cons_succ] at h2
          exact h2
    · simp only [aw_al, hv, if_false, List.mem_cons, ih, Prod.mk.injEq]
      constructor
      · rintro (⟨h1, h2⟩ | ⟨h1, h2, h3⟩)
        · subst h1
          subst h2
          simp [hv]
        · refine ⟨by omega, ?_, h3⟩
          rw [show j - s = (j - (s + 1)) + 1 by omega, List.getElem?_cons_succ]
          exact h2
      · rintro ⟨h1, h2, h3⟩
        by_cases hj : j = s
        · subst hj
          simp at h2
          exact Or.inl ⟨rfl, h2.symm⟩
        · refine Or.inr ⟨by omega, ?_, h3⟩
          rw [show j - s = (j - (s + 1)) + 1 by omega, List.getElem?_cons_succ] at h2
          exact h2
def aw_L (ls : Array Slot) (nL : Nat) (lv : List Value) : Prop := lv_has ls nL (aw_al 0 lv)
theorem aw_L_at {ls : Array Slot} {nL : Nat} {lv : List Value} (h : aw_L ls nL lv) {i : Nat} {v : Value} (hi : lv[i]? = some v) (hv : v ≠ .null) : ls[i]? = some (.val v) := h.2.2 (i, v) ((aw_al_mem lv 0 i v).mpr ⟨Nat.zero_le _, hi, hv⟩)
/-- a long that ends at place i is no more -/
def aw_kl (lv : List Value) : Nat → List Value
  | 0 => lv
  | i + 1 => match lv[i]? with
    | some (.long _) => lv.set i .null
    | some (.double _) => lv.set i .null
    | _ => lv
def aw_st1 (lv : List Value) (i : Nat) (v : Value) : List Value := (aw_kl lv i).set i v
def aw_st2 (lv : List Value) (i : Nat) (v : Value) : List Value := ((aw_kl lv i).set i v).set (i + 1) .null
theorem aw_kl_ne {lv : List Value} {i j : Nat} {w : Value} (h : (aw_kl lv i)[j]? = some w) (hw : w ≠ .null) : lv[j]? = some w ∧ ¬ (j + 1 = i ∧ w.category = 2) := by
  cases i with
  | zero => exact ⟨h, by omega⟩
  | succ i =>
    have key : ∀ x : Value, lv[i]? = some x → (lv.set i .null)[j]? = some w → lv[j]? = some w ∧ ¬ (j + 1 = i + 1 ∧ w.category = 2) := by
      intro x hx h2
      by_cases hj : j = i
      · subst hj
        rw [List.getElem?_set_self (List.getElem?_eq_some_iff.mp hx).1] at h2
        exact absurd (Option.some.inj h2).symm hw
      · rw [List.getElem?_set_ne (Ne.symm hj)] at h2
        exact ⟨h2, fun q => hj (by omega)⟩
    simp only [aw_kl] at h
    split at h
    next x hx => exact key _ hx h
    next x hx => exact key _ hx h
    next h1 h2 =>
      refine ⟨h, ?_⟩
      rintro ⟨e, hc⟩
      have e2 : j = i := by omega
      subst e2
      cases w with
      | long x => exact h1 x h
      | double x => exact h2 x h
      | int x => cases hc
      | float x => cases hc
      | null => cases hc
      | ref x => cases hc
      | retAddr x => cases hc
theorem aw_L_st1 {ls' : Array Slot} {nL i : Nat} {lv : List Value} {v : Value} (h : lv_has ls' nL ((i, v) :: (aw_al 0 lv).filter (fun q => !(q.1 == i) && !(q.1 + 1 == i && q.2.category == 2)))) : aw_L ls' nL (aw_st1 lv i v) := by
  refine ⟨h.1, h.2.1, fun q hq => ?_⟩
  obtain ⟨j, w⟩ := q
  obtain ⟨-, h2, h3⟩ := (aw_al_mem _ 0 j w).mp hq
  simp only [Nat.sub_zero, aw_st1] at h2
  refine h.2.2 (j, w) ?_
  by_cases hj : j = i
  · subst hj
    have hl : j < (aw_kl lv j).length := by
      have := (List.getElem?_eq_some_iff.mp h2).1
      simpa using this
    rw [List.getElem?_set_self hl] at h2
    rw [Option.some.inj h2]
    exact List.mem_cons_self
  · rw [List.getElem?_set_ne (Ne.symm hj)] at h2
    obtain ⟨h4, h5⟩ := aw_kl_ne h2 h3
    refine List.mem_cons_of_mem _ (List.mem_filter.mpr ⟨(aw_al_mem lv 0 j w).mpr ⟨Nat.zero_le _, h4, h3⟩, ?_⟩)
    simp only [Bool.and_eq_true, Bool.not_eq_true', beq_eq_false_iff_ne, ne_eq, hj, not_false_eq_true, true_and, Bool.and_eq_false_iff]
    by_cases hc : j + 1 = i
    · exact Or.inr (fun q => h5 ⟨hc, q⟩)
    · exact Or.inl hc
theorem aw_L_st2 {ls' : Array Slot} {nL i : Nat} {lv : List Value} {v : Value} (h : lv_has ls' nL ((i, v) :: (aw_al 0 lv).filter (fun q => !(q.1 == i) && (!(q.1 == i + 1) && !(q.1 + 1 == i && q.2.category == 2))))) : aw_L ls' nL (aw_st2 lv i v) := by
  refine ⟨h.1, h.2.1, fun q hq => ?_⟩
  obtain ⟨j, w⟩ := q
  obtain ⟨-, h2, h3⟩ := (aw_al_mem _ 0 j w).mp hq
  simp only [Nat.sub_zero, aw_st2] at h2
  refine h.2.2 (j, w) ?_
  by_cases hj1 : j = i + 1
  · subst hj1
    have hl : i + 1 < ((aw_kl lv i).set i v).length := by
      have := (List.getElem?_eq_some_iff.mp h2).1
      simpa using this
    rw [List.getElem?_set_self hl] at h2
    exact absurd (Option.some.inj h2).symm h3
  · rw [List.getElem?_set_ne (Ne.symm hj1)] at h2
    by_cases hj : j = i
    · subst hj
      have hl : j < (aw_kl lv j).length := by
        have := (List.getElem?_eq_some_iff.mp h2).1
        simpa using this
      rw [List.getElem?_set_self hl] at h2
      rw [Option.some.inj h2]
      exact List.mem_cons_self
    · rw [List.getElem?_set_ne (Ne.symm hj)] at h2
      obtain ⟨h4, h5⟩ := aw_kl_ne h2 h3
      refine List.mem_cons_of_mem _ (List.mem_filter.mpr ⟨(aw_al_mem lv 0 j w).mpr ⟨Nat.zero_le _, h4, h3⟩, ?_⟩)
      simp only [Bool.and_eq_true, Bool.not_eq_true', beq_eq_false_iff_ne, ne_eq, hj, hj1, not_false_eq_true, true_and, Bool.and_eq_false_iff]
      by_cases hc : j + 1 = i
      · exact Or.inr (fun q => h5 ⟨hc, q⟩)
      · exact Or.inl hc
/-- the locals with which a method begins -/
def aw_in : List Value → List Value
  | [] => []
  | v :: r => if v.category = 2 then v :: .null :: aw_in r else v :: aw_in r
theorem aw_in_mem : ∀ (vs : List Value) (s : Nat) (q : Nat × Value), q ∈ aw_al s (aw_in vs) → q ∈ lv_args s vs
  | [], s, q, h => by simp [aw_in, aw_al] at h
  | v :: r, s, q, h => by
    unfold aw_in at h
    unfold lv_args
    by_cases hc : v.category = 2
    · simp only [hc, if_true] at h ⊢
      have hv : v ≠ .null := fun e => by rw [e] at hc; cases hc
      simp only [aw_al, hv, if_false, if_true, List.mem_cons] at h ⊢
      rcases h with h | h
      · exact Or.inl h
      · exact Or.inr (aw_in_mem r (s + 2) q h)
    · simp only [hc, if_false] at h ⊢
      by_cases hv : v = .null
      · simp only [aw_al, hv, if_true] at h
        exact List.mem_cons_of_mem _ (aw_in_mem r (s + 1) q h)
      · simp only [aw_al, hv, if_false, List.mem_cons] at h ⊢
        rcases h with h | h
        · exact Or.inl h
        · exact Or.inr (aw_in_mem r (s + 1) q h)
/-- nothing known of the places behind the arguments -/
theorem aw_al_app : ∀ (l : List Value) (s n : Nat) (q : Nat × Value), q ∈ aw_al s (l ++ List.replicate n .null) → q ∈ aw_al s l
  | [], s, n, q, h => by
    obtain ⟨j, w⟩ := q
    obtain ⟨-, h2, h3⟩ := (aw_al_mem _ s j w).mp h
    have := List.mem_of_getElem? h2
    simp at this
    exact absurd this.2 h3
  | v :: r, s, n, q, h => by
    simp only [List.cons_append] at h
    unfold aw_al at h ⊢
    by_cases hv : v = .null
    · simp only [hv, if_true] at h ⊢
      exact aw_al_app r (s + 1) n q h
    · simp only [hv, if_false, List.mem_cons] at h ⊢
      rcases h with h | h
      · exact Or.inl h
      · exact Or.inr (aw_al_app r (s + 1) n q h)

/-- what stands fast while a method runs -/
def aw_Fix (G : aw_G) (M : aw_M) (N0 d mc ms : Nat) (p : Program) (R : Room) (s : State) (m : MethodId) (args : Array Value) (meth : Method) (c : Code) : Prop :=
  p.tables.exec = Jvm.exec ∧ c.code = aw_cc M ∧ meth.sig.returnType = aw_rt M ∧ meth.locks = false ∧ c.maxLocals = aw_nL M ∧ s.vm.findClass (aw_y M).cls = some m.cls ∧ (∀ w ∈ aw_tbl, w.before args s = true) ∧ aw_K G s ∧ meth.name = (aw_y M).name ∧
  d ≤ R.frames ∧ 64 * d ≤ R.locals ∧ mc ≤ R.cells ∧ ms ≤ R.slots ∧ s.heap.size = aw_bs G + N0 ∧ ∀ q ∈ aw_scr M, va_X q.1 q.2.1 q.2.2 s s.heap ∧ q.1 < aw_bs G ∧ q.1 < s.heap.size
def aw_rok (M : aw_M) (v : Option Value) (pc : Nat) : Prop :=
  (∃ x : Int32, v = some (.int x) ∧ decode (aw_cc M) pc = .ok (.ireturn, 1) ∧ ∃ ty, aw_rt M = some ty ∧ narrow ty (.int x) = .int x) ∨ (∃ x : Int64, v = some (.long x) ∧ decode (aw_cc M) pc = .ok (.lreturn, 1) ∧ aw_rt M = some .long) ∨ (v = none ∧ decode (aw_cc M) pc = .ok (.return_, 1) ∧ aw_rt M = none)
abbrev aw_Q : Type := Option Value → aw_O → aw_MI → aw_MJ → Prop
def aw_End (G : aw_G) (M : aw_M) (mc ms : Nat) (Q : aw_Q) (p : Program) (e : Env) (R : Room) (s : State) (m : MethodId) (args : Array Value) (below : List Frame) (meth : Method) (c : Code) (Z : State → Prop) : Prop :=
  ∀ (v : Option Value) (Ω : aw_O) (I : aw_MI) (J : aw_MJ) (H : Heap) (locs : List Loc) (k n : Nat) (pc : Nat) (ls : Array Slot), Q v Ω I J → aw_R G Ω I J H → va_S (aw_A G) s.heap H locs → k ≤ mc → n ≤ ms → aw_rok M v pc → W p (aw_l G) e R s m args below meth c H locs k n Z (F0 m pc ls v.toList)
/-- at place pc, with the memories I, J, the locals lv, the stack st: the method comes to its end with Q -/
def AW (G : aw_G) (M : aw_M) (N0 d mc ms : Nat) (Q : aw_Q) (Ω : aw_O) (I : aw_MI) (J : aw_MJ) (k n : Nat) (lv : List Value) (pc : Nat) (st : List Value) : Prop :=
  ∀ (p : Program) (e : Env) (R : Room) (s : State) (m : MethodId) (args : Array Value) (below : List Frame) (meth : Method) (c : Code) (H : Heap) (locs : List Loc) (ls : Array Slot) (Z : State → Prop), aw_Fix G M N0 d mc ms p R s m args meth c → aw_L ls (aw_nL M) lv → aw_R G Ω I J H → va_S (aw_A G) s.heap H locs → aw_End G M mc ms Q p e R s m args below meth c Z → W p (aw_l G) e R s m args below meth c H locs k n Z (F0 m pc ls st)
section AWR
variable {G : aw_G} {M : aw_M} {N0 d mc ms : Nat} {Q : aw_Q} {Ω : aw_O} {I : aw_MI} {J : aw_MJ} {k n : Nat} {lv : List Value} {pc : Nat} {st : List Value}

theorem aw_iconst {z : Int} {v : Int32} (hd : decode (aw_cc M) pc = .ok (.iconst z, 1)) (hv : Int32.ofInt z = v) (kk : AW G M N0 d mc ms Q Ω I J k n lv (pc + 1) (.int v :: st)) : AW G M N0 d mc ms Q Ω I J k n lv pc (st) := by
  intro p e R s m args below meth c H locs ls Z hF hl hR hS hE
  exact lv_iconst hF.1 hF.2.1 hd hv (kk p e R s m args below meth c H locs ls Z hF hl hR hS hE)
theorem aw_bipush {z : Int} {v : Int32} (hd : decode (aw_cc M) pc = .ok (.bipush z, 2)) (hv : (Int8.ofInt z).toInt32 = v) (kk : AW G M N0 d mc ms Q Ω I J k n lv (pc + 2) (.int v :: st)) : AW G M N0 d mc ms Q Ω I J k n lv pc (st) := by
  intro p e R s m args below meth c H locs ls Z hF hl hR hS hE
  exact lv_bipush hF.1 hF.2.1 hd hv (kk p e R s m args below meth c H locs ls Z hF hl hR hS hE)
theorem aw_sipush {z : Int} {v : Int32} (hd : decode (aw_cc M) pc = .ok (.sipush z, 3)) (hv : (Int16.ofInt z).toInt32 = v) (kk : AW G M N0 d mc ms Q Ω I J k n lv (pc + 3) (.int v :: st)) : AW G M N0 d mc ms Q Ω I J k n lv pc (st) := by
  intro p e R s m args below meth c H locs ls Z hF hl hR hS hE
  exact lv_sipush hF.1 hF.2.1 hd hv (kk p e R s m args below meth c H locs ls Z hF hl hR hS hE)
theorem aw_lconst {z : Fin 2} {v : Int64} (hd : decode (aw_cc M) pc = .ok (.lconst z, 1)) (hv : Int64.ofNat (z : Nat) = v) (kk : AW G M N0 d mc ms Q Ω I J k n lv (pc + 1) (.long v :: st)) : AW G M N0 d mc ms Q Ω I J k n lv pc (st) := by
  intro p e R s m args below meth c H locs ls Z hF hl hR hS hE
  exact lv_lconst hF.1 hF.2.1 hd hv (kk p e R s m args below meth c H locs ls Z hF hl hR hS hE)
theorem aw_iload_n {z : Fin 4} {x : Int32} (hd : decode (aw_cc M) pc = .ok (.iload_n z, 1)) (hg : lv[(z : Nat)]? = some (.int x)) (kk : AW G M N0 d mc ms Q Ω I J k n lv (pc + 1) (.int x :: st)) : AW G M N0 d mc ms Q Ω I J k n lv pc (st) := by
  intro p e R s m args below meth c H locs ls Z hF hl hR hS hE
  exact lv_iload_n hF.1 hF.2.1 hd rfl (aw_L_at hl hg (fun q => by cases q)) (kk p e R s m args below meth c H locs ls Z hF hl hR hS hE)
theorem aw_iload {i : Nat} {x : Int32} (hd : decode (aw_cc M) pc = .ok (.iload i, 2)) (hg : lv[i]? = some (.int x)) (kk : AW G M N0 d mc ms Q Ω I J k n lv (pc + 2) (.int x :: st)) : AW G M N0 d mc ms Q Ω I J k n lv pc (st) := by
  intro p e R s m args below meth c H locs ls Z hF hl hR hS hE
  exact lv_iload hF.1 hF.2.1 hd (aw_L_at hl hg (fun q => by cases q)) (kk p e R s m args below meth c H locs ls Z hF hl hR hS hE)
theorem aw_lload_n {z : Fin 4} {x : Int64} (hd : decode (aw_cc M) pc = .ok (.lload_n z, 1)) (hg : lv[(z : Nat)]? = some (.long x)) (kk : AW G M N0 d mc ms Q Ω I J k n lv (pc + 1) (.long x :: st)) : AW G M N0 d mc ms Q Ω I J k n lv pc (st) := by
  intro p e R s m args below meth c H locs ls Z hF hl hR hS hE
  exact lv_lload_n hF.1 hF.2.1 hd rfl (aw_L_at hl hg (fun q => by cases q)) (kk p e R s m args below meth c H locs ls Z hF hl hR hS hE)
theorem aw_lload {i : Nat} {x : Int64} (hd : decode (aw_cc M) pc = .ok (.lload i, 2)) (hg : lv[i]? = some (.long x)) (kk : AW G M N0 d mc ms Q Ω I J k n lv (pc + 2) (.long x :: st)) : AW G M N0 d mc ms Q Ω I J k n lv pc (st) := by
  intro p e R s m args below meth c H locs ls Z hF hl hR hS hE
  exact lv_lload hF.1 hF.2.1 hd (aw_L_at hl hg (fun q => by cases q)) (kk p e R s m args below meth c H locs ls Z hF hl hR hS hE)
theorem aw_aload_n {z : Fin 4} {a : Nat} (hd : decode (aw_cc M) pc = .ok (.aload_n z, 1)) (hg : lv[(z : Nat)]? = some (.ref a)) (kk : AW G M N0 d mc ms Q Ω I J k n lv (pc + 1) (.ref a :: st)) : AW G M N0 d mc ms Q Ω I J k n lv pc (st) := by
  intro p e R s m args below meth c H locs ls Z hF hl hR hS hE
  exact lv_aload_n hF.1 hF.2.1 hd rfl (aw_L_at hl hg (fun q => by cases q)) (kk p e R s m args below meth c H locs ls Z hF hl hR hS hE)
theorem aw_aload {i : Nat} {a : Nat} (hd : decode (aw_cc M) pc = .ok (.aload i, 2)) (hg : lv[i]? = some (.ref a)) (kk : AW G M N0 d mc ms Q Ω I J k n lv (pc + 2) (.ref a :: st)) : AW G M N0 d mc ms Q Ω I J k n lv pc (st) := by
  intro p e R s m args below meth c H locs ls Z hF hl hR hS hE
  exact lv_aload hF.1 hF.2.1 hd (aw_L_at hl hg (fun q => by cases q)) (kk p e R s m args below meth c H locs ls Z hF hl hR hS hE)
theorem aw_istore_n {z : Fin 4} {x : Int32} (hd : decode (aw_cc M) pc = .ok (.istore_n z, 1)) (hn : (z : Nat) < aw_nL M) (kk : AW G M N0 d mc ms Q Ω I J k n (aw_st1 lv (z : Nat) (.int x)) (pc + 1) st) : AW G M N0 d mc ms Q Ω I J k n lv pc (.int x :: st) := by
  intro p e R s m args below meth c H locs ls Z hF hl hR hS hE
  exact lv_istore_n hF.1 hF.2.1 hd rfl hl hn rfl (fun ls' hl' => kk p e R s m args below meth c H locs ls' Z hF (aw_L_st1 hl') hR hS hE)
theorem aw_istore {i : Nat} {x : Int32} (hd : decode (aw_cc M) pc = .ok (.istore i, 2)) (hn : i < aw_nL M) (kk : AW G M N0 d mc ms Q Ω I J k n (aw_st1 lv i (.int x)) (pc + 2) st) : AW G M N0 d mc ms Q Ω I J k n lv pc (.int x :: st) := by
  intro p e R s m args below meth c H locs ls Z hF hl hR hS hE
  exact lv_istore hF.1 hF.2.1 hd hl hn rfl (fun ls' hl' => kk p e R s m args below meth c H locs ls' Z hF (aw_L_st1 hl') hR hS hE)
theorem aw_lstore_n {z : Fin 4} {x : Int64} (hd : decode (aw_cc M) pc = .ok (.lstore_n z, 1)) (hn : (z : Nat) + 1 < aw_nL M) (kk : AW G M N0 d mc ms Q Ω I J k n (aw_st2 lv (z : Nat) (.long x)) (pc + 1) st) : AW G M N0 d mc ms Q Ω I J k n lv pc (.long x :: st) := by
  intro p e R s m args below meth c H locs ls Z hF hl hR hS hE
  exact lv_lstore_n hF.1 hF.2.1 hd rfl hl hn rfl (fun ls' hl' => kk p e R s m args below meth c H locs ls' Z hF (aw_L_st2 hl') hR hS hE)
theorem aw_lstore {i : Nat} {x : Int64} (hd : decode (aw_cc M) pc = .ok (.lstore i, 2)) (hn : i + 1 < aw_nL M) (kk : AW G M N0 d mc ms Q Ω I J k n (aw_st2 lv i (.long x)) (pc + 2) st) : AW G M N0 d mc ms Q Ω I J k n lv pc (.long x :: st) := by
  intro p e R s m args below meth c H locs ls Z hF hl hR hS hE
  exact lv_lstore hF.1 hF.2.1 hd hl hn rfl (fun ls' hl' => kk p e R s m args below meth c H locs ls' Z hF (aw_L_st2 hl') hR hS hE)
theorem aw_astore_n {z : Fin 4} {x : Nat} (hd : decode (aw_cc M) pc = .ok (.astore_n z, 1)) (hn : (z : Nat) < aw_nL M) (kk : AW G M N0 d mc ms Q Ω I J k n (aw_st1 lv (z : Nat) (.ref x)) (pc + 1) st) : AW G M N0 d mc ms Q Ω I J k n lv pc (.ref x :: st) := by
  intro p e R s m args below meth c H locs ls Z hF hl hR hS hE
  exact lv_astore_n hF.1 hF.2.1 hd rfl hl hn rfl (fun ls' hl' => kk p e R s m args below meth c H locs ls' Z hF (aw_L_st1 hl') hR hS hE)
theorem aw_astore {i : Nat} {x : Nat} (hd : decode (aw_cc M) pc = .ok (.astore i, 2)) (hn : i < aw_nL M) (kk : AW G M N0 d mc ms Q Ω I J k n (aw_st1 lv i (.ref x)) (pc + 2) st) : AW G M N0 d mc ms Q Ω I J k n lv pc (.ref x :: st) := by
  intro p e R s m args below meth c H locs ls Z hF hl hR hS hE
  exact lv_astore hF.1 hF.2.1 hd hl hn rfl (fun ls' hl' => kk p e R s m args below meth c H locs ls' Z hF (aw_L_st1 hl') hR hS hE)
theorem aw_iinc {i : Nat} {z : Int} {x v : Int32} (hd : decode (aw_cc M) pc = .ok (.iinc i z, 3)) (hg : lv[i]? = some (.int x)) (hv : x + Int32.ofInt z = v) (hn : i < aw_nL M) (kk : AW G M N0 d mc ms Q Ω I J k n (aw_st1 lv i (.int v)) (pc + 3) st) : AW G M N0 d mc ms Q Ω I J k n lv pc st := by
  intro p e R s m args below meth c H locs ls Z hF hl hR hS hE
  obtain ⟨j, hj⟩ := List.getElem?_of_mem ((aw_al_mem lv 0 i (.int x)).mpr ⟨Nat.zero_le _, hg, fun q => by cases q⟩)
  exact lv_iinc hF.1 hF.2.1 hd hl hj hv hn rfl (fun ls' hl' => kk p e R s m args below meth c H locs ls' Z hF (aw_L_st1 hl') hR hS hE)
theorem aw_iadd {x y : Int32} (hd : decode (aw_cc M) pc = .ok (.iadd, 1)) (kk : AW G M N0 d mc ms Q Ω I J k n lv (pc + 1) (.int (x + y) :: st)) : AW G M N0 d mc ms Q Ω I J k n lv pc (.int y :: .int x :: st) := by
  intro p e R s m args below meth c H locs ls Z hF hl hR hS hE
  exact lv_iadd hF.1 hF.2.1 hd (kk p e R s m args below meth c H locs ls Z hF hl hR hS hE)
theorem aw_isub {x y : Int32} (hd : decode (aw_cc M) pc = .ok (.isub, 1)) (kk : AW G M N0 d mc ms Q Ω I J k n lv (pc + 1) (.int (x - y) :: st)) : AW G M N0 d mc ms Q Ω I J k n lv pc (.int y :: .int x :: st) := by
  intro p e R s m args below meth c H locs ls Z hF hl hR hS hE
  exact lv_isub hF.1 hF.2.1 hd (kk p e R s m args below meth c H locs ls Z hF hl hR hS hE)
theorem aw_imul {x y : Int32} (hd : decode (aw_cc M) pc = .ok (.imul, 1)) (kk : AW G M N0 d mc ms Q Ω I J k n lv (pc + 1) (.int (x * y) :: st)) : AW G M N0 d mc ms Q Ω I J k n lv pc (.int y :: .int x :: st) := by
  intro p e R s m args below meth c H locs ls Z hF hl hR hS hE
  exact lv_imul hF.1 hF.2.1 hd (kk p e R s m args below meth c H locs ls Z hF hl hR hS hE)
theorem aw_iand {x y : Int32} (hd : decode (aw_cc M) pc = .ok (.iand, 1)) (kk : AW G M N0 d mc ms Q Ω I J k n lv (pc + 1) (.int (x &&& y) :: st)) : AW G M N0 d mc ms Q Ω I J k n lv pc (.int y :: .int x :: st) := by
  intro p e R s m args below meth c H locs ls Z hF hl hR hS hE
  exact lv_iand hF.1 hF.2.1 hd (kk p e R s m args below meth c H locs ls Z hF hl hR hS hE)
theorem aw_ior {x y : Int32} (hd : decode (aw_cc M) pc = .ok (.ior, 1)) (kk : AW G M N0 d mc ms Q Ω I J k n lv (pc + 1) (.int (x ||| y) :: st)) : AW G M N0 d mc ms Q Ω I J k n lv pc (.int y :: .int x :: st) := by
  intro p e R s m args below meth c H locs ls Z hF hl hR hS hE
  exact lv_ior hF.1 hF.2.1 hd (kk p e R s m args below meth c H locs ls Z hF hl hR hS hE)
theorem aw_ixor {x y : Int32} (hd : decode (aw_cc M) pc = .ok (.ixor, 1)) (kk : AW G M N0 d mc ms Q Ω I J k n lv (pc + 1) (.int (x ^^^ y) :: st)) : AW G M N0 d mc ms Q Ω I J k n lv pc (.int y :: .int x :: st) := by
  intro p e R s m args below meth c H locs ls Z hF hl hR hS hE
  exact lv_ixor hF.1 hF.2.1 hd (kk p e R s m args below meth c H locs ls Z hF hl hR hS hE)
theorem aw_ishl {x y : Int32} (hd : decode (aw_cc M) pc = .ok (.ishl, 1)) (kk : AW G M N0 d mc ms Q Ω I J k n lv (pc + 1) (.int (x <<< (y &&& 31)) :: st)) : AW G M N0 d mc ms Q Ω I J k n lv pc (.int y :: .int x :: st) := by
  intro p e R s m args below meth c H locs ls Z hF hl hR hS hE
  exact lv_ishl hF.1 hF.2.1 hd (kk p e R s m args below meth c H locs ls Z hF hl hR hS hE)
theorem aw_ishr {x y : Int32} (hd : decode (aw_cc M) pc = .ok (.ishr, 1)) (kk : AW G M N0 d mc ms Q Ω I J k n lv (pc + 1) (.int (x >>> (y &&& 31)) :: st)) : AW G M N0 d mc ms Q Ω I J k n lv pc (.int y :: .int x :: st) := by
  intro p e R s m args below meth c H locs ls Z hF hl hR hS hE
  exact lv_ishr hF.1 hF.2.1 hd (kk p e R s m args below meth c H locs ls Z hF hl hR hS hE)
theorem aw_iushr {x y : Int32} (hd : decode (aw_cc M) pc = .ok (.iushr, 1)) (kk : AW G M N0 d mc ms Q Ω I J k n lv (pc + 1) (.int ((x.toUInt32 >>> (y.toUInt32 &&& Int32.toUInt32 31)).toInt32) :: st)) : AW G M N0 d mc ms Q Ω I J k n lv pc (.int y :: .int x :: st) := by
  intro p e R s m args below meth c H locs ls Z hF hl hR hS hE
  exact lv_iushr hF.1 hF.2.1 hd rfl (kk p e R s m args below meth c H locs ls Z hF hl hR hS hE)
theorem aw_irem {x y : Int32} (hd : decode (aw_cc M) pc = .ok (.irem, 1)) (hy : ¬ y = 0) (kk : AW G M N0 d mc ms Q Ω I J k n lv (pc + 1) (.int (x - x / y * y) :: st)) : AW G M N0 d mc ms Q Ω I J k n lv pc (.int y :: .int x :: st) := by
  intro p e R s m args below meth c H locs ls Z hF hl hR hS hE
  exact lv_irem hF.1 hF.2.1 hd hy (kk p e R s m args below meth c H locs ls Z hF hl hR hS hE)
theorem aw_ineg {x : Int32} (hd : decode (aw_cc M) pc = .ok (.ineg, 1)) (kk : AW G M N0 d mc ms Q Ω I J k n lv (pc + 1) (.int (-x) :: st)) : AW G M N0 d mc ms Q Ω I J k n lv pc (.int x :: st) := by
  intro p e R s m args below meth c H locs ls Z hF hl hR hS hE
  exact lv_ineg hF.1 hF.2.1 hd (kk p e R s m args below meth c H locs ls Z hF hl hR hS hE)
theorem aw_ladd {x y : Int64} (hd : decode (aw_cc M) pc = .ok (.ladd, 1)) (kk : AW G M N0 d mc ms Q Ω I J k n lv (pc + 1) (.long (x + y) :: st)) : AW G M N0 d mc ms Q Ω I J k n lv pc (.long y :: .long x :: st) := by
  intro p e R s m args below meth c H locs ls Z hF hl hR hS hE
  exact lv_ladd hF.1 hF.2.1 hd (kk p e R s m args below meth c H locs ls Z hF hl hR hS hE)
theorem aw_lsub {x y : Int64} (hd : decode (aw_cc M) pc = .ok (.lsub, 1)) (kk : AW G M N0 d mc ms Q Ω I J k n lv (pc + 1) (.long (x - y) :: st)) : AW G M N0 d mc ms Q Ω I J k n lv pc (.long y :: .long x :: st) := by
  intro p e R s m args below meth c H locs ls Z hF hl hR hS hE
  exact lv_lsub hF.1 hF.2.1 hd (kk p e R s m args below meth c H locs ls Z hF hl hR hS hE)
theorem aw_lmul {x y : Int64} (hd : decode (aw_cc M) pc = .ok (.lmul, 1)) (kk : AW G M N0 d mc ms Q Ω I J k n lv (pc + 1) (.long (x * y) :: st)) : AW G M N0 d mc ms Q Ω I J k n lv pc (.long y :: .long x :: st) := by
  intro p e R s m args below meth c H locs ls Z hF hl hR hS hE
  exact lv_lmul hF.1 hF.2.1 hd (kk p e R s m args below meth c H locs ls Z hF hl hR hS hE)
theorem aw_land {x y : Int64} (hd : decode (aw_cc M) pc = .ok (.land, 1)) (kk : AW G M N0 d mc ms Q Ω I J k n lv (pc + 1) (.long (x &&& y) :: st)) : AW G M N0 d mc ms Q Ω I J k n lv pc (.long y :: .long x :: st) := by
  intro p e R s m args below meth c H locs ls Z hF hl hR hS hE
  exact lv_land hF.1 hF.2.1 hd (kk p e R s m args below meth c H locs ls Z hF hl hR hS hE)
theorem aw_lor {x y : Int64} (hd : decode (aw_cc M) pc = .ok (.lor, 1)) (kk : AW G M N0 d mc ms Q Ω I J k n lv (pc + 1) (.long (x ||| y) :: st)) : AW G M N0 d mc ms Q Ω I J k n lv pc (.long y :: .long x :: st) := by
  intro p e R s m args below meth c H locs ls Z hF hl hR hS hE
  exact lv_lor hF.1 hF.2.1 hd (kk p e R s m args below meth c H locs ls Z hF hl hR hS hE)
theorem aw_lxor {x y : Int64} (hd : decode (aw_cc M) pc = .ok (.lxor, 1)) (kk : AW G M N0 d mc ms Q Ω I J k n lv (pc + 1) (.long (x ^^^ y) :: st)) : AW G M N0 d mc ms Q Ω I J k n lv pc (.long y :: .long x :: st) := by
  intro p e R s m args below meth c H locs ls Z hF hl hR hS hE
  exact lv_lxor hF.1 hF.2.1 hd (kk p e R s m args below meth c H locs ls Z hF hl hR hS hE)
theorem aw_ldiv {x y : Int64} (hd : decode (aw_cc M) pc = .ok (.ldiv, 1)) (hy : ¬ y = 0) (kk : AW G M N0 d mc ms Q Ω I J k n lv (pc + 1) (.long (x / y) :: st)) : AW G M N0 d mc ms Q Ω I J k n lv pc (.long y :: .long x :: st) := by
  intro p e R s m args below meth c H locs ls Z hF hl hR hS hE
  exact lv_ldiv hF.1 hF.2.1 hd hy (kk p e R s m args below meth c H locs ls Z hF hl hR hS hE)
theorem aw_lrem {x y : Int64} (hd : decode (aw_cc M) pc = .ok (.lrem, 1)) (hy : ¬ y = 0) (kk : AW G M N0 d mc ms Q Ω I J k n lv (pc + 1) (.long (x - x / y * y) :: st)) : AW G M N0 d mc ms Q Ω I J k n lv pc (.long y :: .long x :: st) := by
  intro p e R s m args below meth c H locs ls Z hF hl hR hS hE
  exact lv_lrem hF.1 hF.2.1 hd hy (kk p e R s m args below meth c H locs ls Z hF hl hR hS hE)
theorem aw_lneg {x : Int64} (hd : decode (aw_cc M) pc = .ok (.lneg, 1)) (kk : AW G M N0 d mc ms Q Ω I J k n lv (pc + 1) (.long (-x) :: st)) : AW G M N0 d mc ms Q Ω I J k n lv pc (.long x :: st) := by
  intro p e R s m args below meth c H locs ls Z hF hl hR hS hE
  exact lv_lneg hF.1 hF.2.1 hd (kk p e R s m args below meth c H locs ls Z hF hl hR hS hE)
theorem aw_lshl {x : Int64} {y : Int32} (hd : decode (aw_cc M) pc = .ok (.lshl, 1)) (kk : AW G M N0 d mc ms Q Ω I J k n lv (pc + 1) (.long (x <<< (y.toInt64 &&& 63)) :: st)) : AW G M N0 d mc ms Q Ω I J k n lv pc (.int y :: .long x :: st) := by
  intro p e R s m args below meth c H locs ls Z hF hl hR hS hE
  exact lv_lshl hF.1 hF.2.1 hd rfl (kk p e R s m args below meth c H locs ls Z hF hl hR hS hE)
theorem aw_lshr {x : Int64} {y : Int32} (hd : decode (aw_cc M) pc = .ok (.lshr, 1)) (kk : AW G M N0 d mc ms Q Ω I J k n lv (pc + 1) (.long (x >>> (y.toInt64 &&& 63)) :: st)) : AW G M N0 d mc ms Q Ω I J k n lv pc (.int y :: .long x :: st) := by
  intro p e R s m args below meth c H locs ls Z hF hl hR hS hE
  exact lv_lshr hF.1 hF.2.1 hd rfl (kk p e R s m args below meth c H locs ls Z hF hl hR hS hE)
theorem aw_i2l {x : Int32} (hd : decode (aw_cc M) pc = .ok (.i2l, 1)) (kk : AW G M N0 d mc ms Q Ω I J k n lv (pc + 1) (.long x.toInt64 :: st)) : AW G M N0 d mc ms Q Ω I J k n lv pc (.int x :: st) := by
  intro p e R s m args below meth c H locs ls Z hF hl hR hS hE
  exact lv_i2l hF.1 hF.2.1 hd rfl (kk p e R s m args below meth c H locs ls Z hF hl hR hS hE)
theorem aw_l2i {x : Int64} (hd : decode (aw_cc M) pc = .ok (.l2i, 1)) (kk : AW G M N0 d mc ms Q Ω I J k n lv (pc + 1) (.int x.toInt32 :: st)) : AW G M N0 d mc ms Q Ω I J k n lv pc (.long x :: st) := by
  intro p e R s m args below meth c H locs ls Z hF hl hR hS hE
  exact lv_l2i hF.1 hF.2.1 hd rfl (kk p e R s m args below meth c H locs ls Z hF hl hR hS hE)
theorem aw_i2b {x : Int32} (hd : decode (aw_cc M) pc = .ok (.i2b, 1)) (kk : AW G M N0 d mc ms Q Ω I J k n lv (pc + 1) (.int x.toInt8.toInt32 :: st)) : AW G M N0 d mc ms Q Ω I J k n lv pc (.int x :: st) := by
  intro p e R s m args below meth c H locs ls Z hF hl hR hS hE
  exact lv_i2b hF.1 hF.2.1 hd rfl (kk p e R s m args below meth c H locs ls Z hF hl hR hS hE)
theorem aw_lcmp {x y : Int64} (hd : decode (aw_cc M) pc = .ok (.lcmp, 1)) (kk : AW G M N0 d mc ms Q Ω I J k n lv (pc + 1) (.int (lg_cmp x y) :: st)) : AW G M N0 d mc ms Q Ω I J k n lv pc (.long y :: .long x :: st) := by
  intro p e R s m args below meth c H locs ls Z hF hl hR hS hE
  exact W.lcmp hF.1 hF.2.1 hd (kk p e R s m args below meth c H locs ls Z hF hl hR hS hE)
theorem aw_dup {v : Value} (hd : decode (aw_cc M) pc = .ok (.dup, 1)) (hv : v.category = 1) (kk : AW G M N0 d mc ms Q Ω I J k n lv (pc + 1) (v :: v :: st)) : AW G M N0 d mc ms Q Ω I J k n lv pc (v :: st) := by
  intro p e R s m args below meth c H locs ls Z hF hl hR hS hE
  exact lv_dup hF.1 hF.2.1 hd hv (kk p e R s m args below meth c H locs ls Z hF hl hR hS hE)
theorem aw_pop {v : Value} (hd : decode (aw_cc M) pc = .ok (.pop, 1)) (hv : v.category = 1) (kk : AW G M N0 d mc ms Q Ω I J k n lv (pc + 1) (st)) : AW G M N0 d mc ms Q Ω I J k n lv pc (v :: st) := by
  intro p e R s m args below meth c H locs ls Z hF hl hR hS hE
  exact lv_pop hF.1 hF.2.1 hd hv (kk p e R s m args below meth c H locs ls Z hF hl hR hS hE)
theorem aw_goto {off : Int} {t : Nat} (hd : decode (aw_cc M) pc = .ok (.goto off, 3)) (ht : (pc : Int) + off = (t : Int)) (kk : AW G M N0 d mc ms Q Ω I J k n lv (t) (st)) : AW G M N0 d mc ms Q Ω I J k n lv pc (st) := by
  intro p e R s m args below meth c H locs ls Z hF hl hR hS hE
  exact lv_goto hF.1 hF.2.1 hd ht (kk p e R s m args below meth c H locs ls Z hF hl hR hS hE)
theorem aw_ldcw {idx : Nat} {v : Int32} (hd : decode (aw_cc M) pc = .ok (.ldc_w idx, 3)) (hw : Cond.constant (aw_y M).cls idx v ∈ aw_tbl) (kk : AW G M N0 d mc ms Q Ω I J k n lv (pc + 3) (.int v :: st)) : AW G M N0 d mc ms Q Ω I J k n lv pc (st) := by
  intro p e R s m args below meth c H locs ls Z hF hl hR hS hE
  exact lv_ldcw hF.1 hF.2.1 hF.2.2.2.2.2.1 (hF.2.2.2.2.2.2.1 _ hw) hd (kk p e R s m args below meth c H locs ls Z hF hl hR hS hE)
theorem aw_ldc2 {idx : Nat} {v : Int64} (hd : decode (aw_cc M) pc = .ok (.ldc2_w idx, 3)) (hw : Cond.constantLong (aw_y M).cls idx v ∈ aw_tbl) (kk : AW G M N0 d mc ms Q Ω I J k n lv (pc + 3) (.long v :: st)) : AW G M N0 d mc ms Q Ω I J k n lv pc (st) := by
  intro p e R s m args below meth c H locs ls Z hF hl hR hS hE
  exact lv_ldc2 hF.1 hF.2.1 hF.2.2.2.2.2.1 (hF.2.2.2.2.2.2.1 _ hw) hd (kk p e R s m args below meth c H locs ls Z hF hl hR hS hE)
theorem aw_if_eq {x : Int32} {off : Int} {t : Nat} (hd : decode (aw_cc M) pc = .ok (.ifCond .eq off, 3)) (ht : (pc : Int) + off = (t : Int)) (kt : x = 0 → AW G M N0 d mc ms Q Ω I J k n lv t st) (kf : ¬ x = 0 → AW G M N0 d mc ms Q Ω I J k n lv (pc + 3) st) : AW G M N0 d mc ms Q Ω I J k n lv pc (.int x :: st) := by
  intro p e R s m args below meth c H locs ls Z hF hl hR hS hE
  exact lv_if_eq hF.1 hF.2.1 hd ht (fun q => kt q p e R s m args below meth c H locs ls Z hF hl hR hS hE) (fun q => kf q p e R s m args below meth c H locs ls Z hF hl hR hS hE)
theorem aw_if_ne {x : Int32} {off : Int} {t : Nat} (hd : decode (aw_cc M) pc = .ok (.ifCond .ne off, 3)) (ht : (pc : Int) + off = (t : Int)) (kt : ¬ x = 0 → AW G M N0 d mc ms Q Ω I J k n lv t st) (kf : x = 0 → AW G M N0 d mc ms Q Ω I J k n lv (pc + 3) st) : AW G M N0 d mc ms Q Ω I J k n lv pc (.int x :: st) := by
  intro p e R s m args below meth c H locs ls Z hF hl hR hS hE
  exact lv_if_ne hF.1 hF.2.1 hd ht (fun q => kt q p e R s m args below meth c H locs ls Z hF hl hR hS hE) (fun q => kf q p e R s m args below meth c H locs ls Z hF hl hR hS hE)
theorem aw_if_lt {x : Int32} {off : Int} {t : Nat} (hd : decode (aw_cc M) pc = .ok (.ifCond .lt off, 3)) (ht : (pc : Int) + off = (t : Int)) (kt : x < 0 → AW G M N0 d mc ms Q Ω I J k n lv t st) (kf : ¬ x < 0 → AW G M N0 d mc ms Q Ω I J k n lv (pc + 3) st) : AW G M N0 d mc ms Q Ω I J k n lv pc (.int x :: st) := by
  intro p e R s m args below meth c H locs ls Z hF hl hR hS hE
  exact lv_if_lt hF.1 hF.2.1 hd ht (fun q => kt q p e R s m args below meth c H locs ls Z hF hl hR hS hE) (fun q => kf q p e R s m args below meth c H locs ls Z hF hl hR hS hE)
theorem aw_if_ge {x : Int32} {off : Int} {t : Nat} (hd : decode (aw_cc M) pc = .ok (.ifCond .ge off, 3)) (ht : (pc : Int) + off = (t : Int)) (kt : 0 ≤ x → AW G M N0 d mc ms Q Ω I J k n lv t st) (kf : ¬ 0 ≤ x → AW G M N0 d mc ms Q Ω I J k n lv (pc + 3) st) : AW G M N0 d mc ms Q Ω I J k n lv pc (.int x :: st) := by
  intro p e R s m args below meth c H locs ls Z hF hl hR hS hE
  exact lv_if_ge hF.1 hF.2.1 hd ht (fun q => kt q p e R s m args below meth c H locs ls Z hF hl hR hS hE) (fun q => kf q p e R s m args below meth c H locs ls Z hF hl hR hS hE)
theorem aw_if_gt {x : Int32} {off : Int} {t : Nat} (hd : decode (aw_cc M) pc = .ok (.ifCond .gt off, 3)) (ht : (pc : Int) + off = (t : Int)) (kt : 0 < x → AW G M N0 d mc ms Q Ω I J k n lv t st) (kf : ¬ 0 < x → AW G M N0 d mc ms Q Ω I J k n lv (pc + 3) st) : AW G M N0 d mc ms Q Ω I J k n lv pc (.int x :: st) := by
  intro p e R s m args below meth c H locs ls Z hF hl hR hS hE
  exact lv_if_gt hF.1 hF.2.1 hd ht (fun q => kt q p e R s m args below meth c H locs ls Z hF hl hR hS hE) (fun q => kf q p e R s m args below meth c H locs ls Z hF hl hR hS hE)
theorem aw_if_le {x : Int32} {off : Int} {t : Nat} (hd : decode (aw_cc M) pc = .ok (.ifCond .le off, 3)) (ht : (pc : Int) + off = (t : Int)) (kt : x ≤ 0 → AW G M N0 d mc ms Q Ω I J k n lv t st) (kf : ¬ x ≤ 0 → AW G M N0 d mc ms Q Ω I J k n lv (pc + 3) st) : AW G M N0 d mc ms Q Ω I J k n lv pc (.int x :: st) := by
  intro p e R s m args below meth c H locs ls Z hF hl hR hS hE
  exact lv_if_le hF.1 hF.2.1 hd ht (fun q => kt q p e R s m args below meth c H locs ls Z hF hl hR hS hE) (fun q => kf q p e R s m args below meth c H locs ls Z hF hl hR hS hE)
theorem aw_icmp_eq {x y : Int32} {off : Int} {t : Nat} (hd : decode (aw_cc M) pc = .ok (.if_icmp .eq off, 3)) (ht : (pc : Int) + off = (t : Int)) (kt : x = y → AW G M N0 d mc ms Q Ω I J k n lv t st) (kf : ¬ x = y → AW G M N0 d mc ms Q Ω I J k n lv (pc + 3) st) : AW G M N0 d mc ms Q Ω I J k n lv pc (.int y :: .int x :: st) := by
  intro p e R s m args below meth c H locs ls Z hF hl hR hS hE
  exact lv_icmp_eq hF.1 hF.2.1 hd ht (fun q => kt q p e R s m args below meth c H locs ls Z hF hl hR hS hE) (fun q => kf q p e R s m args below meth c H locs ls Z hF hl hR hS hE)
theorem aw_icmp_ne {x y : Int32} {off : Int} {t : Nat} (hd : decode (aw_cc M) pc = .ok (.if_icmp .ne off, 3)) (ht : (pc : Int) + off = (t : Int)) (kt : ¬ x = y → AW G M N0 d mc ms Q Ω I J k n lv t st) (kf : x = y → AW G M N0 d mc ms Q Ω I J k n lv (pc + 3) st) : AW G M N0 d mc ms Q Ω I J k n lv pc (.int y :: .int x :: st) := by
  intro p e R s m args below meth c H locs ls Z hF hl hR hS hE
  exact lv_icmp_ne hF.1 hF.2.1 hd ht (fun q => kt q p e R s m args below meth c H locs ls Z hF hl hR hS hE) (fun q => kf q p e R s m args below meth c H locs ls Z hF hl hR hS hE)
theorem aw_icmp_lt {x y : Int32} {off : Int} {t : Nat} (hd : decode (aw_cc M) pc = .ok (.if_icmp .lt off, 3)) (ht : (pc : Int) + off = (t : Int)) (kt : x < y → AW G M N0 d mc ms Q Ω I J k n lv t st) (kf : ¬ x < y → AW G M N0 d mc ms Q Ω I J k n lv (pc + 3) st) : AW G M N0 d mc ms Q Ω I J k n lv pc (.int y :: .int x :: st) := by
  intro p e R s m args below meth c H locs ls Z hF hl hR hS hE
  exact lv_icmp_lt hF.1 hF.2.1 hd ht (fun q => kt q p e R s m args below meth c H locs ls Z hF hl hR hS hE) (fun q => kf q p e R s m args below meth c H locs ls Z hF hl hR hS hE)
theorem aw_icmp_ge {x y : Int32} {off : Int} {t : Nat} (hd : decode (aw_cc M) pc = .ok (.if_icmp .ge off, 3)) (ht : (pc : Int) + off = (t : Int)) (kt : y ≤ x → AW G M N0 d mc ms Q Ω I J k n lv t st) (kf : ¬ y ≤ x → AW G M N0 d mc ms Q Ω I J k n lv (pc + 3) st) : AW G M N0 d mc ms Q Ω I J k n lv pc (.int y :: .int x :: st) := by
  intro p e R s m args below meth c H locs ls Z hF hl hR hS hE
  exact lv_icmp_ge hF.1 hF.2.1 hd ht (fun q => kt q p e R s m args below meth c H locs ls Z hF hl hR hS hE) (fun q => kf q p e R s m args below meth c H locs ls Z hF hl hR hS hE)
theorem aw_icmp_gt {x y : Int32} {off : Int} {t : Nat} (hd : decode (aw_cc M) pc = .ok (.if_icmp .gt off, 3)) (ht : (pc : Int) + off = (t : Int)) (kt : y < x → AW G M N0 d mc ms Q Ω I J k n lv t st) (kf : ¬ y < x → AW G M N0 d mc ms Q Ω I J k n lv (pc + 3) st) : AW G M N0 d mc ms Q Ω I J k n lv pc (.int y :: .int x :: st) := by
  intro p e R s m args below meth c H locs ls Z hF hl hR hS hE
  exact lv_icmp_gt hF.1 hF.2.1 hd ht (fun q => kt q p e R s m args below meth c H locs ls Z hF hl hR hS hE) (fun q => kf q p e R s m args below meth c H locs ls Z hF hl hR hS hE)
theorem aw_icmp_le {x y : Int32} {off : Int} {t : Nat} (hd : decode (aw_cc M) pc = .ok (.if_icmp .le off, 3)) (ht : (pc : Int) + off = (t : Int)) (kt : x ≤ y → AW G M N0 d mc ms Q Ω I J k n lv t st) (kf : ¬ x ≤ y → AW G M N0 d mc ms Q Ω I J k n lv (pc + 3) st) : AW G M N0 d mc ms Q Ω I J k n lv pc (.int y :: .int x :: st) := by
  intro p e R s m args below meth c H locs ls Z hF hl hR hS hE
  exact lv_icmp_le hF.1 hF.2.1 hd ht (fun q => kt q p e R s m args below meth c H locs ls Z hF hl hR hS hE) (fun q => kf q p e R s m args below meth c H locs ls Z hF hl hR hS hE)
end AWR
end
section
/-! THE LAYER AW: fields, arrays, calls, ends -/
theorem aw_Dd {G : aw_G} {Ω : aw_O} {I : aw_MI} {J : aw_MJ} : va_D (aw_A G) (aw_ws G Ω I J) := by
  have key : ∀ (j : Nat) (q : Nat × va_E), (aw_ws G Ω I J)[j]? = some q → q.1 = aw_ad G j := by
    intro j q hj
    have hl : j < aw_nx Ω := by
      have := (List.getElem?_eq_some_iff.mp hj).1
      simpa [aw_ws] using this
    rw [aw_at hl] at hj
    rw [← Option.some.inj hj]
  refine ⟨fun i j x y hi hj hxy => ?_, fun j q hj => ?_⟩
  · have h1 := key i x hi
    have h2 := key j y hj
    unfold aw_ad at h1 h2
    omega
  · have h1 := key j q hj
    unfold aw_ad at h1
    show aw_bs G ≤ q.1
    omega
theorem aw_val_cong {G : aw_G} {Ω : aw_O} {I I' : aw_MI} {J J' : aw_MJ} {j : Nat} (h1 : I' j = I j) (h2 : J' j = J j) : aw_val G Ω I' J' j = aw_val G Ω I J j := by
  funext k t
  simp only [aw_val, h1, h2]
theorem aw_E_cong {G : aw_G} {Ω : aw_O} {I I' : aw_MI} {J J' : aw_MJ} {j : Nat} (h1 : I' j = I j) (h2 : J' j = J j) : aw_E G Ω I' J' j = aw_E G Ω I J j := by
  simp only [aw_E, aw_val_cong h1 h2, h1, h2]
/-- from the room: how large the heap is -/
theorem aw_sz {p : Program} {G : aw_G} {e : Env} {R : Room} {s : State} {m : MethodId} {args : Array Value} {below : List Frame} {meth : Method} {c : Code} {T : State} {locs : List Loc} {k n N0 : Nat} {Ω : aw_O} {I : aw_MI} {J : aw_MJ} {H : Heap} (X : Stand p (aw_l G) e R s m args below meth c T locs k n) (hT : T.heap = H) (hs : s.heap.size = aw_bs G + N0) (hN : aw_nx Ω = N0 + k) (hle : s.heap.size ≤ H.size) (hP : va_P (aw_D G) classes (aw_ws G Ω I J) H) : H.size = aw_bs G + aw_nx Ω := by
  have h1 := X.heapSize
  rw [hT, hs] at h1
  by_cases h0 : aw_nx Ω = 0
  · omega
  · have h2 := (hP (aw_nx Ω - 1) _ (aw_at (by omega))).lt
    have h3 : aw_bs G + (aw_nx Ω - 1) < H.size := h2
    omega
def aw_is (Ω : aw_O) (i : Nat) (S : aw_S) : Prop := i < aw_nx Ω ∧ aw_sh Ω i = S
/-- a class of the tables -/
def aw_C (ci : Nat) (C : String) (T : u_T) (N : Nat) (ty : Nat → FieldType) : Prop := classes[ci]? = some (C, T, N) ∧ (∀ w ∈ u_ws C T N, w ∈ aw_tbl) ∧ (∀ k, k < N → parseFieldDescriptor (T k).2.2.1 = some (ty k)) ∧ (∀ a, a < N → ∀ b, b < N → a ≠ b → (T a).2.1 ≠ (T b).2.1) ∧ aw_fty ci = (List.range N).map (fun k => aw_kd (ty k))
theorem aw_C0 : aw_C 0 RX0 TX0 5 tyX0 := ⟨rfl, by decide +kernel, tyX0_ok, nmX0, rfl⟩
theorem aw_C1 : aw_C 1 RX1 TX1 9 tyX1 := ⟨rfl, by decide +kernel, tyX1_ok, nmX1, rfl⟩
theorem aw_C2 : aw_C 2 RX2 TX2 2 tyX2 := ⟨rfl, by decide +kernel, tyX2_ok, nmX2, rfl⟩
theorem aw_C3 : aw_C 3 RX4 TX4 3 tyX4 := ⟨rfl, by decide +kernel, tyX4_ok, nmX4, rfl⟩
theorem aw_C4 : aw_C 4 RX5 TX5 3 tyX5 := ⟨rfl, by decide +kernel, tyX5_ok, nmX5, rfl⟩
theorem aw_C5 : aw_C 5 RX6 TX6 13 tyX6 := ⟨rfl, by decide +kernel, tyX6_ok, nmX6, rfl⟩
theorem aw_C6 : aw_C 6 RX7 TX7 9 tyX7 := ⟨rfl, by decide +kernel, tyX7_ok, nmX7, rfl⟩
theorem aw_C7 : aw_C 7 RX8 TX8 33 tyX8 := ⟨rfl, by decide +kernel, tyX8_ok, nmX8, rfl⟩
/-- in a class's code the index names field f, of kind t, of class ci -/
def aw_F (own : String) (idx ci f t : Nat) : Prop := ∃ (C : String) (T : u_T) (N : Nat) (ty : Nat → FieldType), aw_C ci C T N ty ∧ f < N ∧ Cond.fieldLink own idx (T f).1 (T f).2.1 (T f).2.2.1 ∈ aw_tbl ∧ aw_kd (ty f) = t
theorem aw_F.at {own : String} {idx ci f t : Nat} (h : aw_F own idx ci f t) : (aw_fty ci)[f]? = some t := by
  obtain ⟨C, T, N, ty, ⟨-, -, -, -, he⟩, hf, -, ht⟩ := h
  rw [he]
  simp [hf, ht]
theorem aw_E_obj {G : aw_G} {Ω : aw_O} {I : aw_MI} {J : aw_MJ} {i ci : Nat} (h : aw_is Ω i (.inl ci)) : (aw_ws G Ω I J)[i]? = some (aw_ad G i, .inr (ci, aw_fl (aw_val G Ω I J i) 0 (aw_fty ci))) := by
  rw [aw_at h.1]
  simp only [aw_E, h.2]
theorem aw_E_int {G : aw_G} {Ω : aw_O} {I : aw_MI} {J : aw_MJ} {i N : Nat} (h : aw_is Ω i (.inr (0, N))) : (aw_ws G Ω I J)[i]? = some (aw_ad G i, .inl (aw_cI G, N, .inl (I i))) := by
  rw [aw_at h.1]
  simp only [aw_E, h.2]
theorem aw_E_lng {G : aw_G} {Ω : aw_O} {I : aw_MI} {J : aw_MJ} {i N : Nat} (h : aw_is Ω i (.inr (1, N))) : (aw_ws G Ω I J)[i]? = some (aw_ad G i, .inl (aw_cJ G, N, .inr (.inl (J i)))) := by
  rw [aw_at h.1]
  simp only [aw_E, h.2]
theorem aw_E_row {G : aw_G} {Ω : aw_O} {I : aw_MI} {J : aw_MJ} {i N : Nat} (h : aw_is Ω i (.inr (2, N))) : (aw_ws G Ω I J)[i]? = some (aw_ad G i, .inl (aw_cR G, N, .inr (.inr (.inr (.inr (fun k => (aw_P Ω i k).map (aw_ad G))))))) := by
  rw [aw_at h.1]
  simp only [aw_E, h.2]
theorem aw_up_row (I : aw_MI) (i j : Nat) (x : Int32) : aw_up I i j x i = upd (I i) j x := by
  funext q
  simp [aw_up, upd]
theorem aw_up_rowL (J : aw_MJ) (i j : Nat) (x : Int64) : aw_up J i j x i = vp_updL (J i) j x := by
  funext q
  simp [aw_up, vp_updL]
theorem aw_nIc {j N : Nat} (hj : j < N) (hN : N ≤ 1000) : vp_in (nI j) N ∧ (nI j).toNatClampNeg = j := ⟨vp_in_nI hj (by omega), nI_clamp (by omega)⟩
section AWH
variable {G : aw_G} {M : aw_M} {N0 d mc ms : Nat} {Q : aw_Q} {Ω : aw_O} {I : aw_MI} {J : aw_MJ} {k n : Nat} {lv : List Value} {pc : Nat} {st : List Value}
theorem aw_getI {idx i ci f : Nat} (hd : decode (aw_cc M) pc = .ok (.getfield idx, 3)) (hf : aw_F (aw_y M).cls idx ci f 0) (hi : aw_is Ω i (.inl ci)) (kk : AW G M N0 d mc ms Q Ω I J k n lv (pc + 3) (.int (I i f) :: st)) : AW G M N0 d mc ms Q Ω I J k n lv pc (.ref (aw_ad G i) :: st) := by
  intro p e R s m args below meth c H locs ls Z hF hl hR hS hE
  have hfa := hf.at
  obtain ⟨C, T, N, ty, ⟨hc, hin, hty, hnm, -⟩, hk, hw, ht⟩ := hf
  exact va_get hF.1 hF.2.1 hF.2.2.2.2.2.2.1 hin hF.2.2.2.2.2.1 hF.2.2.2.2.2.2.2.1.1 hR.1 i (aw_E_obj hi) hc f hk (hF.2.2.2.2.2.2.1 _ hw) (fun _ h => h) (v := .int (I i f)) (by rw [aw_fl_get _ _ 0 f _ hfa]; simp [aw_val]) hd (kk p e R s m args below meth c H locs ls Z hF hl hR hS hE)
theorem aw_getZ {idx i ci f : Nat} (hd : decode (aw_cc M) pc = .ok (.getfield idx, 3)) (hf : aw_F (aw_y M).cls idx ci f 3) (hi : aw_is Ω i (.inl ci)) (kk : AW G M N0 d mc ms Q Ω I J k n lv (pc + 3) (.int (I i f) :: st)) : AW G M N0 d mc ms Q Ω I J k n lv pc (.ref (aw_ad G i) :: st) := by
  intro p e R s m args below meth c H locs ls Z hF hl hR hS hE
  have hfa := hf.at
  obtain ⟨C, T, N, ty, ⟨hc, hin, hty, hnm, -⟩, hk, hw, ht⟩ := hf
  exact va_get hF.1 hF.2.1 hF.2.2.2.2.2.2.1 hin hF.2.2.2.2.2.1 hF.2.2.2.2.2.2.2.1.1 hR.1 i (aw_E_obj hi) hc f hk (hF.2.2.2.2.2.2.1 _ hw) (fun _ h => h) (v := .int (I i f)) (by rw [aw_fl_get _ _ 0 f _ hfa]; simp [aw_val]) hd (kk p e R s m args below meth c H locs ls Z hF hl hR hS hE)
theorem aw_getJ {idx i ci f : Nat} (hd : decode (aw_cc M) pc = .ok (.getfield idx, 3)) (hf : aw_F (aw_y M).cls idx ci f 1) (hi : aw_is Ω i (.inl ci)) (kk : AW G M N0 d mc ms Q Ω I J k n lv (pc + 3) (.long (J i f) :: st)) : AW G M N0 d mc ms Q Ω I J k n lv pc (.ref (aw_ad G i) :: st) := by
  intro p e R s m args below meth c H locs ls Z hF hl hR hS hE
  have hfa := hf.at
  obtain ⟨C, T, N, ty, ⟨hc, hin, hty, hnm, -⟩, hk, hw, ht⟩ := hf
  exact va_get hF.1 hF.2.1 hF.2.2.2.2.2.2.1 hin hF.2.2.2.2.2.1 hF.2.2.2.2.2.2.2.1.1 hR.1 i (aw_E_obj hi) hc f hk (hF.2.2.2.2.2.2.1 _ hw) (fun _ h => h) (v := .long (J i f)) (by rw [aw_fl_get _ _ 0 f _ hfa]; simp [aw_val]) hd (kk p e R s m args below meth c H locs ls Z hF hl hR hS hE)
theorem aw_getR {idx i ci f r : Nat} (hd : decode (aw_cc M) pc = .ok (.getfield idx, 3)) (hf : aw_F (aw_y M).cls idx ci f 2) (hi : aw_is Ω i (.inl ci)) (hr : aw_P Ω i f = some r) (kk : AW G M N0 d mc ms Q Ω I J k n lv (pc + 3) (.ref (aw_ad G r) :: st)) : AW G M N0 d mc ms Q Ω I J k n lv pc (.ref (aw_ad G i) :: st) := by
  intro p e R s m args below meth c H locs ls Z hF hl hR hS hE
  have hfa := hf.at
  obtain ⟨C, T, N, ty, ⟨hc, hin, hty, hnm, -⟩, hk, hw, ht⟩ := hf
  exact va_get hF.1 hF.2.1 hF.2.2.2.2.2.2.1 hin hF.2.2.2.2.2.1 hF.2.2.2.2.2.2.2.1.1 hR.1 i (aw_E_obj hi) hc f hk (hF.2.2.2.2.2.2.1 _ hw) (fun _ h => h) (v := .ref (aw_ad G r)) (by rw [aw_fl_get _ _ 0 f _ hfa]; simp [aw_val, hr, va_rf]) hd (kk p e R s m args below meth c H locs ls Z hF hl hR hS hE)
/-- in a class's code the index names a field that is not final -/
def aw_Fw (own : String) (idx ci f t : Nat) : Prop := ∃ (C : String) (T : u_T) (N : Nat) (ty : Nat → FieldType), aw_C ci C T N ty ∧ f < N ∧ Cond.fieldLink own idx (T f).1 (T f).2.1 (T f).2.2.1 ∈ aw_tbl ∧ aw_kd (ty f) = t ∧ (T f).2.2.2 = false
theorem aw_Fw.F {own : String} {idx ci f t : Nat} (h : aw_Fw own idx ci f t) : aw_F own idx ci f t := by
  obtain ⟨C, T, N, ty, h1, h2, h3, h4, -⟩ := h
  exact ⟨C, T, N, ty, h1, h2, h3, h4⟩
theorem aw_kd0 {ty : FieldType} (h : aw_kd ty = 0) : ty = .int := by
  cases ty <;> first | rfl | simp [aw_kd] at h
theorem aw_kd1 {ty : FieldType} (h : aw_kd ty = 1) : ty = .long := by
  cases ty <;> first | rfl | simp [aw_kd] at h
theorem aw_kd3 {ty : FieldType} (h : aw_kd ty = 3) : ty = .boolean := by
  cases ty <;> first | rfl | simp [aw_kd] at h
theorem aw_putI {idx i ci f : Nat} {x : Int32} (hd : decode (aw_cc M) pc = .ok (.putfield idx, 3)) (hf : aw_Fw (aw_y M).cls idx ci f 0) (hi : aw_is Ω i (.inl ci)) (hN : aw_nx Ω = N0 + k) (kk : AW G M N0 d mc ms Q Ω (aw_up I i f x) J k n lv (pc + 3) st) : AW G M N0 d mc ms Q Ω I J k n lv pc (.int x :: .ref (aw_ad G i) :: st) := by
  intro p e R s m args below meth c H locs ls Z hF hl hR hS hE
  have hfa := hf.F.at
  obtain ⟨C, T, N, ty, ⟨hc, hin, hty, hnm, hft⟩, hk, hw, ht, hfin⟩ := hf
  have hi2 := aw_kd0 ht
  refine va_put hF.1 hF.2.1 hF.2.2.2.2.2.2.1 hin ty hty hnm hF.2.2.2.2.2.1 hF.2.2.2.2.2.2.2.1.1 hR.1 aw_Dd hS i (aw_E_obj hi) hc f hk (hF.2.2.2.2.2.2.1 _ hw) (fun _ h => h) hfin (ty := .int) (v := .int x) (by rw [hty f hk, hi2]) rfl rfl (by rw [aw_fl_len]; exact (List.getElem?_eq_some_iff.mp hfa).1) hd (fun H1 locs1 hP1 hD1 hS1 => ?_)
  have e1 : (aw_ws G Ω I J).set i (aw_ad G i, .inr (ci, (aw_fl (aw_val G Ω I J i) 0 (aw_fty ci)).set f (.int x))) = aw_ws G Ω (aw_up I i f x) J := by
    refine aw_set ?_ (fun j hj => aw_E_cong (aw_up_off I x hj) rfl)
    have e2 := aw_fl_set (aw_val G Ω I J i) (aw_val G Ω (aw_up I i f x) J i) (aw_fty ci) 0 f 0 hfa (fun j t' hj => by simp only [aw_val]; rw [aw_up_ne I x (Or.inr (by omega))])
    simp only [Nat.zero_add] at e2
    have e3 : aw_val G Ω (aw_up I i f x) J i f 0 = .int x := by simp [aw_val, aw_up_self]
    rw [e3] at e2
    rw [e2]
    simp only [aw_E, hi.2]
  rw [e1] at hP1
  intro T2 hT2 X
  exact kk p e R s m args below meth c H1 locs1 ls Z hF hl ⟨hP1, aw_sz X hT2 hF.2.2.2.2.2.2.2.2.2.2.2.2.2.1 hN hS1.1 hP1⟩ hS1 hE T2 hT2 X
theorem aw_putZ {idx i ci f : Nat} {x : Int32} (hd : decode (aw_cc M) pc = .ok (.putfield idx, 3)) (hf : aw_Fw (aw_y M).cls idx ci f 3) (hi : aw_is Ω i (.inl ci)) (hx : x = 0 ∨ x = 1) (hN : aw_nx Ω = N0 + k) (kk : AW G M N0 d mc ms Q Ω (aw_up I i f x) J k n lv (pc + 3) st) : AW G M N0 d mc ms Q Ω I J k n lv pc (.int x :: .ref (aw_ad G i) :: st) := by
  intro p e R s m args below meth c H locs ls Z hF hl hR hS hE
  have hfa := hf.F.at
  obtain ⟨C, T, N, ty, ⟨hc, hin, hty, hnm, hft⟩, hk, hw, ht, hfin⟩ := hf
  have hi2 := aw_kd3 ht
  refine va_put hF.1 hF.2.1 hF.2.2.2.2.2.2.1 hin ty hty hnm hF.2.2.2.2.2.1 hF.2.2.2.2.2.2.2.1.1 hR.1 aw_Dd hS i (aw_E_obj hi) hc f hk (hF.2.2.2.2.2.2.1 _ hw) (fun _ h => h) hfin (ty := .boolean) (v := .int x) (by rw [hty f hk, hi2]) (by rcases hx with rfl | rfl <;> decide) (by rcases hx with rfl | rfl <;> decide) (by rw [aw_fl_len]; exact (List.getElem?_eq_some_iff.mp hfa).1) hd (fun H1 locs1 hP1 hD1 hS1 => ?_)
  have e1 : (aw_ws G Ω I J).set i (aw_ad G i, .inr (ci, (aw_fl (aw_val G Ω I J i) 0 (aw_fty ci)).set f (.int x))) = aw_ws G Ω (aw_up I i f x) J := by
    refine aw_set ?_ (fun j hj => aw_E_cong (aw_up_off I x hj) rfl)
    have e2 := aw_fl_set (aw_val G Ω I J i) (aw_val G Ω (aw_up I i f x) J i) (aw_fty ci) 0 f 3 hfa (fun j t' hj => by simp only [aw_val]; rw [aw_up_ne I x (Or.inr (by omega))])
    simp only [Nat.zero_add] at e2
    have e3 : aw_val G Ω (aw_up I i f x) J i f 3 = .int x := by simp [aw_val, aw_up_self]
    rw [e3] at e2
    rw [e2]
    simp only [aw_E, hi.2]
  rw [e1] at hP1
  intro T2 hT2 X
  exact kk p e R s m args below meth c H1 locs1 ls Z hF hl ⟨hP1, aw_sz X hT2 hF.2.2.2.2.2.2.2.2.2.2.2.2.2.1 hN hS1.1 hP1⟩ hS1 hE T2 hT2 X
theorem aw_putJ {idx i ci f : Nat} {x : Int64} (hd : decode (aw_cc M) pc = .ok (.putfield idx, 3)) (hf : aw_Fw (aw_y M).cls idx ci f 1) (hi : aw_is Ω i (.inl ci)) (hN : aw_nx Ω = N0 + k) (kk : AW G M N0 d mc ms Q Ω I (aw_up J i f x) k n lv (pc + 3) st) : AW G M N0 d mc ms Q Ω I J k n lv pc (.long x :: .ref (aw_ad G i) :: st) := by
  intro p e R s m args below meth c H locs ls Z hF hl hR hS hE
  have hfa := hf.F.at
  obtain ⟨C, T, N, ty, ⟨hc, hin, hty, hnm, hft⟩, hk, hw, ht, hfin⟩ := hf
  have hi2 := aw_kd1 ht
  refine va_put hF.1 hF.2.1 hF.2.2.2.2.2.2.1 hin ty hty hnm hF.2.2.2.2.2.1 hF.2.2.2.2.2.2.2.1.1 hR.1 aw_Dd hS i (aw_E_obj hi) hc f hk (hF.2.2.2.2.2.2.1 _ hw) (fun _ h => h) hfin (ty := .long) (v := .long x) (by rw [hty f hk, hi2]) rfl rfl (by rw [aw_fl_len]; exact (List.getElem?_eq_some_iff.mp hfa).1) hd (fun H1 locs1 hP1 hD1 hS1 => ?_)
  have e1 : (aw_ws G Ω I J).set i (aw_ad G i, .inr (ci, (aw_fl (aw_val G Ω I J i) 0 (aw_fty ci)).set f (.long x))) = aw_ws G Ω I (aw_up J i f x) := by
    refine aw_set ?_ (fun j hj => aw_E_cong rfl (aw_up_off J x hj))
    have e2 := aw_fl_set (aw_val G Ω I J i) (aw_val G Ω I (aw_up J i f x) i) (aw_fty ci) 0 f 1 hfa (fun j t' hj => by simp only [aw_val]; rw [aw_up_ne J x (Or.inr (by omega))])
    simp only [Nat.zero_add] at e2
    have e3 : aw_val G Ω I (aw_up J i f x) i f 1 = .long x := by simp [aw_val, aw_up_self]
    rw [e3] at e2
    rw [e2]
    simp only [aw_E, hi.2]
  rw [e1] at hP1
  intro T2 hT2 X
  exact kk p e R s m args below meth c H1 locs1 ls Z hF hl ⟨hP1, aw_sz X hT2 hF.2.2.2.2.2.2.2.2.2.2.2.2.2.1 hN hS1.1 hP1⟩ hS1 hE T2 hT2 X
theorem aw_iald {i N j : Nat} {x : Int32} (hd : decode (aw_cc M) pc = .ok (.iaload, 1)) (hi : aw_is Ω i (.inr (0, N))) (hx : x = nI j) (hj : j < N) (kk : AW G M N0 d mc ms Q Ω I J k n lv (pc + 1) (.int (I i j) :: st)) (hN : N ≤ 1000 := by decide) : AW G M N0 d mc ms Q Ω I J k n lv pc (.int x :: .ref (aw_ad G i) :: st) := by
  intro p e R s m args below meth c H locs ls Z hF hl hR hS hE
  subst hx
  obtain ⟨h1, h2⟩ := aw_nIc hj hN
  refine va_iald hF.1 hF.2.1 hF.2.2.2.2.2.2.2.1.1 hR.1 i 0 (aw_E_int hi) rfl h1 hd ?_
  rw [h2]
  exact kk p e R s m args below meth c H locs ls Z hF hl hR hS hE
theorem aw_lald {i N j : Nat} {x : Int32} (hd : decode (aw_cc M) pc = .ok (.laload, 1)) (hi : aw_is Ω i (.inr (1, N))) (hx : x = nI j) (hj : j < N) (kk : AW G M N0 d mc ms Q Ω I J k n lv (pc + 1) (.long (J i j) :: st)) (hN : N ≤ 1000 := by decide) : AW G M N0 d mc ms Q Ω I J k n lv pc (.int x :: .ref (aw_ad G i) :: st) := by
  intro p e R s m args below meth c H locs ls Z hF hl hR hS hE
  subst hx
  obtain ⟨h1, h2⟩ := aw_nIc hj hN
  refine va_lald hF.1 hF.2.1 hF.2.2.2.2.2.2.2.1.1 hR.1 i 1 (aw_E_lng hi) rfl h1 hd ?_
  rw [h2]
  exact kk p e R s m args below meth c H locs ls Z hF hl hR hS hE
theorem aw_aald {i N j r : Nat} {x : Int32} (hd : decode (aw_cc M) pc = .ok (.aaload, 1)) (hi : aw_is Ω i (.inr (2, N))) (hx : x = nI j) (hj : j < N) (hr : aw_P Ω i j = some r) (kk : AW G M N0 d mc ms Q Ω I J k n lv (pc + 1) (.ref (aw_ad G r) :: st)) (hN : N ≤ 1000 := by decide) : AW G M N0 d mc ms Q Ω I J k n lv pc (.int x :: .ref (aw_ad G i) :: st) := by
  intro p e R s m args below meth c H locs ls Z hF hl hR hS hE
  subst hx
  obtain ⟨h1, h2⟩ := aw_nIc hj hN
  refine W.aald (v := .ref (aw_ad G r)) (ty := .array .long) hF.1 hF.2.1 (hR.1 i _ (aw_E_row hi)) ((hF.2.2.2.2.2.2.2.1.1.2 2 _ rfl).1 N (fun j => va_rf ((aw_P Ω i j).map (aw_ad G)))) rfl (fun q => by cases q) (by show ¬ (nI j < 0 ∨ (arrV _ _ _).slots.size ≤ _); rw [arrV_size]; exact h1) (by show (arrV _ _ _).slots[_]? = _; rw [h2, arrV_read _ _ hj]; show some (va_rf (Option.map (aw_ad G) (aw_P Ω i j))) = _; rw [hr]; rfl) rfl rfl hd ?_
  exact kk p e R s m args below meth c H locs ls Z hF hl hR hS hE
theorem aw_alen {i N t : Nat} (hd : decode (aw_cc M) pc = .ok (.arraylength, 1)) (hi : aw_is Ω i (.inr (t, N))) (kk : AW G M N0 d mc ms Q Ω I J k n lv (pc + 1) (.int (nI N) :: st)) (ht : t < 2 := by decide) : AW G M N0 d mc ms Q Ω I J k n lv pc (.ref (aw_ad G i) :: st) := by
  intro p e R s m args below meth c H locs ls Z hF hl hR hS hE
  have kk2 := kk p e R s m args below meth c H locs ls Z hF hl hR hS hE
  match t, hi, ht with
  | 0, hi, _ => exact va_alen hF.1 hF.2.1 hF.2.2.2.2.2.2.2.1.1 hR.1 i 0 (aw_E_int hi) rfl rfl hd kk2
  | 1, hi, _ => exact va_alen hF.1 hF.2.1 hF.2.2.2.2.2.2.2.1.1 hR.1 i 1 (aw_E_lng hi) rfl rfl hd kk2
  | t + 2, hi, ht => exact absurd ht (by omega)
theorem aw_iast {i N j : Nat} {x y : Int32} (hd : decode (aw_cc M) pc = .ok (.iastore, 1)) (hi : aw_is Ω i (.inr (0, N))) (hx : x = nI j) (hj : j < N) (hN0 : aw_nx Ω = N0 + k) (kk : AW G M N0 d mc ms Q Ω (aw_up I i j y) J k n lv (pc + 1) st) (hN : N ≤ 1000 := by decide) : AW G M N0 d mc ms Q Ω I J k n lv pc (.int y :: .int x :: .ref (aw_ad G i) :: st) := by
  intro p e R s m args below meth c H locs ls Z hF hl hR hS hE
  subst hx
  obtain ⟨h1, h2⟩ := aw_nIc hj hN
  refine va_iast hF.1 hF.2.1 hF.2.2.2.2.2.2.2.1.1 hR.1 aw_Dd hS i 0 (aw_E_int hi) rfl h1 hd (fun H1 locs1 hP1 hD1 hS1 => ?_)
  rw [h2] at hP1
  have e1 : (aw_ws G Ω I J).set i (aw_ad G i, .inl (aw_cI G, N, .inl (upd (I i) j y))) = aw_ws G Ω (aw_up I i j y) J := by
    refine aw_set ?_ (fun j' hj' => aw_E_cong (aw_up_off I y hj') rfl)
    simp only [aw_E, hi.2, aw_up_row]
  rw [e1] at hP1
  intro T2 hT2 X
  exact kk p e R s m args below meth c H1 locs1 ls Z hF hl ⟨hP1, aw_sz X hT2 hF.2.2.2.2.2.2.2.2.2.2.2.2.2.1 hN0 hS1.1 hP1⟩ hS1 hE T2 hT2 X
theorem aw_last {i N j : Nat} {x : Int32} {y : Int64} (hd : decode (aw_cc M) pc = .ok (.lastore, 1)) (hi : aw_is Ω i (.inr (1, N))) (hx : x = nI j) (hj : j < N) (hN0 : aw_nx Ω = N0 + k) (kk : AW G M N0 d mc ms Q Ω I (aw_up J i j y) k n lv (pc + 1) st) (hN : N ≤ 1000 := by decide) : AW G M N0 d mc ms Q Ω I J k n lv pc (.long y :: .int x :: .ref (aw_ad G i) :: st) := by
  intro p e R s m args below meth c H locs ls Z hF hl hR hS hE
  subst hx
  obtain ⟨h1, h2⟩ := aw_nIc hj hN
  refine va_last hF.1 hF.2.1 hF.2.2.2.2.2.2.2.1.1 hR.1 aw_Dd hS i 1 (aw_E_lng hi) rfl h1 hd (fun H1 locs1 hP1 hD1 hS1 => ?_)
  rw [h2] at hP1
  have e1 : (aw_ws G Ω I J).set i (aw_ad G i, .inl (aw_cJ G, N, .inr (.inl (vp_updL (J i) j y)))) = aw_ws G Ω I (aw_up J i j y) := by
    refine aw_set ?_ (fun j' hj' => aw_E_cong rfl (aw_up_off J y hj'))
    simp only [aw_E, hi.2, aw_up_rowL]
  rw [e1] at hP1
  intro T2 hT2 X
  exact kk p e R s m args below meth c H1 locs1 ls Z hF hl ⟨hP1, aw_sz X hT2 hF.2.2.2.2.2.2.2.2.2.2.2.2.2.1 hN0 hS1.1 hP1⟩ hS1 hE T2 hT2 X
end AWH
end
section
/-! THE LAYER AW: a method's end, its beginning, calls -/
def aw_rm (d mc ms : Nat) : Room := { frames := d, cells := mc, slots := ms, locals := 64 * d }
def aw_Qc (G : aw_G) (Q : aw_Q) : Array Value → State → Outcome → State → Prop := fun _ st o t => (∃ (v : Option Value) (Ω : aw_O) (I : aw_MI) (J : aw_MJ), o = .returned v ∧ Q v Ω I J ∧ aw_R G Ω I J t.heap) ∧ va_F (aw_A G) st t
/-- a method's contract: from these memories, with these arguments, it returns with Q -/
def aw_Call (G : aw_G) (M : aw_M) (d mc ms : Nat) (av : List Value) (Ω : aw_O) (I : aw_MI) (J : aw_MJ) (Q : aw_Q) : Prop :=
  Met (aw_l G) (aw_y M) (Cond.code (aw_y M) (aw_cc M) (aw_nL M) (aw_rt M) :: aw_tbl) (aw_rm d mc ms) (va_Pc av (fun U => aw_K G U ∧ aw_R G Ω I J U.heap)) (aw_Qc G Q) mc ms (aw_A G)
def aw_QI (Q : Int32 → aw_O → aw_MI → aw_MJ → Prop) : aw_Q := fun v Ω I J => ∃ x, v = some (.int x) ∧ Q x Ω I J
def aw_QL (Q : Int64 → aw_O → aw_MI → aw_MJ → Prop) : aw_Q := fun v Ω I J => ∃ x, v = some (.long x) ∧ Q x Ω I J
def aw_QV (Q : aw_O → aw_MI → aw_MJ → Prop) : aw_Q := fun v Ω I J => v = none ∧ Q Ω I J
theorem aw_over {s U : State} (hW : s.WarmedH U.vm) (h : (Cond.arrayOver (.array .long)).before #[] s = true) : (Cond.arrayOver (.array .long)).before #[] U = true := by
  have h2 : (Cond.arrayOver (.array .long)).before #[] (s.setVm U.vm) = true := by
    rw [Cond.arrayOver_setVmC hW.alike]
    exact h
  exact h2
theorem aw_K.moved {G : aw_G} {s U : State} (hW : s.WarmedH U.vm) (h : aw_K G s) : aw_K G U := by
  refine ⟨va_K.moved hW.alike h.1, fun w hw => ?_, aw_over hW h.2.2⟩
  have h1 := h.2.1 w hw
  simp only [aw_nest, List.mem_cons, List.not_mem_nil, or_false] at hw
  rcases hw with rfl | rfl | rfl | rfl <;> exact va_Nw.warmM hW h1
section AWE
variable {G : aw_G} {M : aw_M} {N0 d mc ms : Nat} {Ω : aw_O} {I : aw_MI} {J : aw_MJ} {k n : Nat} {lv : List Value} {pc : Nat} {st : List Value}
theorem aw_iret {Q : Int32 → aw_O → aw_MI → aw_MJ → Prop} {x : Int32} (hd : decode (aw_cc M) pc = .ok (.ireturn, 1)) (hr : aw_rt M = some .int) (h : Q x Ω I J) (hk : k ≤ mc) (hn : n ≤ ms) : AW G M N0 d mc ms (aw_QI Q) Ω I J k n lv pc [.int x] := by
  intro p e R s m args below meth c H locs ls Z hF hl hR hS hE
  exact hE (some (.int x)) Ω I J H locs k n pc ls ⟨x, rfl, h⟩ hR hS hk hn (Or.inl ⟨x, rfl, hd, .int, hr, rfl⟩)
theorem aw_zret {Q : Int32 → aw_O → aw_MI → aw_MJ → Prop} {x : Int32} (hd : decode (aw_cc M) pc = .ok (.ireturn, 1)) (hr : aw_rt M = some .boolean) (hx : x = 0 ∨ x = 1) (h : Q x Ω I J) (hk : k ≤ mc) (hn : n ≤ ms) : AW G M N0 d mc ms (aw_QI Q) Ω I J k n lv pc [.int x] := by
  intro p e R s m args below meth c H locs ls Z hF hl hR hS hE
  exact hE (some (.int x)) Ω I J H locs k n pc ls ⟨x, rfl, h⟩ hR hS hk hn (Or.inl ⟨x, rfl, hd, .boolean, hr, by rcases hx with rfl | rfl <;> decide⟩)
theorem aw_lret {Q : Int64 → aw_O → aw_MI → aw_MJ → Prop} {x : Int64} (hd : decode (aw_cc M) pc = .ok (.lreturn, 1)) (hr : aw_rt M = some .long) (h : Q x Ω I J) (hk : k ≤ mc) (hn : n ≤ ms) : AW G M N0 d mc ms (aw_QL Q) Ω I J k n lv pc [.long x] := by
  intro p e R s m args below meth c H locs ls Z hF hl hR hS hE
  exact hE (some (.long x)) Ω I J H locs k n pc ls ⟨x, rfl, h⟩ hR hS hk hn (Or.inr (Or.inl ⟨x, rfl, hd, hr⟩))
theorem aw_vret {Q : aw_O → aw_MI → aw_MJ → Prop} (hd : decode (aw_cc M) pc = .ok (.return_, 1)) (hr : aw_rt M = none) (h : Q Ω I J) (hk : k ≤ mc) (hn : n ≤ ms) : AW G M N0 d mc ms (aw_QV Q) Ω I J k n lv pc [] := by
  intro p e R s m args below meth c H locs ls Z hF hl hR hS hE
  exact hE none Ω I J H locs k n pc ls ⟨rfl, h⟩ hR hS hk hn (Or.inr (Or.inr ⟨rfl, hd, hr⟩))
theorem aw_QI.mono {Q Q' : Int32 → aw_O → aw_MI → aw_MJ → Prop} (h : ∀ x Ω I J, Q x Ω I J → Q' x Ω I J) : ∀ v Ω I J, aw_QI Q v Ω I J → aw_QI Q' v Ω I J := fun _ _ _ _ ⟨x, e, q⟩ => ⟨x, e, h _ _ _ _ q⟩
/-- a method's beginning -/
theorem aw_enter {Q : aw_Q} {av : List Value} (hy : plainName (aw_y M).cls = true) (hsc : aw_scr M = []) (hlen : (lg_sl av).length ≤ aw_nL M) (body : AW G M (aw_nx Ω) d mc ms Q Ω I J 0 0 (aw_in av ++ List.replicate (aw_nL M - (aw_in av).length) .null) 0 []) : aw_Call G M d mc ms av Ω I J Q := by
  refine Met.ofW (cc := aw_cc M) (maxL := aw_nL M) (ret := aw_rt M) hy rfl ?_
  intro p e s m args below meth c s₁ B hml hv
  obtain ⟨rfl, hK, hR⟩ := hv
  have hts := atoms_spec (ws := Cond.code (aw_y M) (aw_cc M) (aw_nL M) (aw_rt M) :: aw_tbl) B.pre
  have hown : s.vm.findClass (aw_y M).cls = some m.cls := findClass_of_methodNamed B.named
  have hnm : meth.name = (aw_y M).name := (name_of_methodNamed B.named B.method).1
  have hl0 := lv_entry av (n := aw_nL M) hlen
  rw [lg_entry_eq]
  generalize (lg_sl av ++ List.replicate (aw_nL M - (lg_sl av).length) Slot.unset).toArray = ls at hl0 ⊢
  have hl : aw_L ls (aw_nL M) (aw_in av ++ List.replicate (aw_nL M - (aw_in av).length) .null) := ⟨hl0.1, hl0.2.1, fun q hq => hl0.2.2 q (aw_in_mem av 0 q (aw_al_app _ 0 _ q hq))⟩
  refine body p e _ s m av.toArray below meth c s.heap [] ls _ ⟨B.exec, B.bytes, B.returns, B.notSynchronized, hml, hown, fun w hw => hts w (List.mem_cons_of_mem _ hw), hK, hnm, Nat.le_refl _, Nat.le_refl _, Nat.le_refl _, Nat.le_refl _, hR.2, fun q hq => by rw [hsc] at hq; cases hq⟩ hl hR va_S.rf ?_
  intro v Ω' I' J' H' locs' k' n' pc' ls' hq hR' hS' hk hn hrok
  refine W.widen (k := mc) (n := ms) hk hn ?_
  have hpost : ∀ t : State, t.heap = H' → aw_Qc G Q av.toArray s (.returned v) t := fun t ht => ⟨⟨v, Ω', I', J', rfl, hq, by rw [ht]; exact hR'⟩, hS'.F ht⟩
  have hlk := B.notSynchronized
  rcases hrok with ⟨x, rfl, hd, ty, hr, hn⟩ | ⟨x, rfl, hd, hr⟩ | ⟨rfl, hd, hr⟩
  · exact W.zret (ty := ty) B.exec B.bytes (B.returns.trans hr) hn (fun t ht _ => hpost t ht) hS'.2.2 hd
  · exact W.lret B.exec B.bytes (B.returns.trans hr) (fun t ht _ => hpost t ht) hS'.2.2 hd
  · exact W.vret B.exec B.bytes (B.returns.trans hr) (fun t ht _ => hpost t ht) hS'.2.2 hd
end AWE
/-- what comes back from a call -/
theorem aw_back {p : Program} {G : aw_G} {e : Env} {R : Room} {s : State} {m : MethodId} {args : Array Value} {below : List Frame} {meth : Method} {c : Code} {H : Heap} {locs : List Loc} {k n mc ms pc : Nat} {ls : Array Slot} {st rest : List Value} {a : Array Value} {Q : aw_Q} {Z : State → Prop}
    (hr : va_Run p (aw_l G) e R s m args below meth c H locs k n mc ms (F0 m pc ls st) rest (aw_Qc G Q a) (aw_A G)) (hS : va_S (aw_A G) s.heap H locs)
    (kk : ∀ (v : Option Value) (Ω : aw_O) (I : aw_MI) (J : aw_MJ) (H1 : Heap) (locs1 : List Loc), Q v Ω I J → aw_R G Ω I J H1 → va_S (aw_A G) s.heap H1 locs1 → W p (aw_l G) e R s m args below meth c H1 locs1 (k + mc) (n + ms) Z (F0 m (pc + 3) ls (v.toList ++ rest))) : W p (aw_l G) e R s m args below meth c H locs k n Z (F0 m pc ls st) := by
  intro T hT X
  obtain ⟨v, st₀, t, T', L, h0, X', hL, e1, e2, ⟨⟨v', Ω', I', J', hv, hq, hR'⟩, hz, hk⟩, stp⟩ := hr T hT X
  cases hv
  rw [h0] at hz hk
  obtain ⟨t2, a1, b1⟩ := kk v Ω' I' J' T'.heap (locs ++ L) hq (by rw [e1]; exact hR')
    ⟨Nat.le_trans hS.1 (by rw [e1]; exact hz), fun q h1 h2 => by rw [e1, hk q (Nat.lt_of_lt_of_le h1 hS.1) h2]; exact hS.2.1 q h1 h2, fun q hq => by
      rcases List.mem_append.mp hq with h | h
      · exact hS.2.2 q h
      · exact hL q h⟩ T' rfl X'
  exact ⟨t2, stp t2 a1, b1⟩
theorem aw_nest_on : ∀ w ∈ aw_nest, w.onTables = true := by
  intro w hw
  simp only [aw_nest, List.mem_cons, List.not_mem_nil, or_false] at hw
  rcases hw with rfl | rfl | rfl | rfl <;> rfl
theorem aw_blind {G : aw_G} {Ω : aw_O} {I : aw_MI} {J : aw_MJ} {av : List Value} : FrameBlind (va_Pc av (fun U => aw_K G U ∧ aw_R G Ω I J U.heap)) := by
  intro a U g mk q
  obtain ⟨q0, qK, qR⟩ := q
  exact ⟨q0, ⟨va_K.moved (u := U) (U := U.calling g mk a) (Vm.Alike.refl U.vm) qK.1, fun w hw => va_Nw.same (aw_nest_on w hw) (u := U) rfl (qK.2.1 w hw), qK.2.2⟩, qR⟩
theorem aw_pay {args : Array Value} {s : State} (ht : ∀ w ∈ aw_tbl, w.before args s = true) {y : MethodName} {cc : ByteArray} {nL : Nat} {rt : Option FieldType} (hc : Cond.code y cc nL rt ∈ aw_tbl) : ∀ w ∈ (Cond.code y cc nL rt :: aw_tbl), ∀ (a' : Array Value) (U : State), s.WarmedH U.vm → w.before a' U = true :=
  pay_in ht (aw_goodIn (fun w hw => by
    rcases List.mem_cons.mp hw with rfl | h
    · exact hc
    · exact h))
/-- a method of the tables that can be called -/
def aw_ok (M : aw_M) (np : Nat) : Prop := Cond.code (aw_y M) (aw_cc M) (aw_nL M) (aw_rt M) ∈ aw_tbl ∧ Cond.initialized (aw_y M).cls ∈ aw_tbl ∧ ((aw_y M).cls ≠ "java/lang/invoke/MethodHandle" ∧ (aw_y M).cls ≠ "java/lang/invoke/VarHandle") ∧ (parseMethodDescriptor (aw_y M).desc).map (fun d => d.parameters.length) = some np ∧ aw_nL M ≤ 45
theorem aw_cb {args : Array Value} {s : State} (ht : ∀ w ∈ aw_tbl, w.before args s = true) {R : Room} {own : String} {idx d mc ms np : Nat} {M : aw_M} (ho : aw_ok M np) (hl : Cond.methodLink own idx (aw_y M) ∈ aw_tbl) (hf : d + 1 ≤ R.frames) (hlo : 64 * (d + 1) ≤ R.locals) : CallB R s args own idx (aw_y M) (aw_cc M) (aw_nL M) (aw_rt M) (Cond.code (aw_y M) (aw_cc M) (aw_nL M) (aw_rt M) :: aw_tbl) (aw_rm d mc ms) mc ms np := by
  obtain ⟨h1, h2, h3, h4, h5⟩ := ho
  refine ⟨rfl, rfl, hf, ?_, aw_pay ht h1, List.mem_cons_self, ht _ h1, ht _ h2, h3, fun sig h => ?_, ht _ hl⟩
  · show 8 + (aw_nL M + 11) + 64 * d ≤ R.locals
    omega
  · rw [h] at h4
    exact (Option.some.inj h4).symm
section AWK
variable {G : aw_G} {M M' : aw_M} {N0 d d' mc ms mc' ms' : Nat} {Q : aw_Q} {Ω : aw_O} {I : aw_MI} {J : aw_MJ} {k n : Nat} {lv : List Value} {pc : Nat} {st : List Value}
/-- invokevirtual -/
theorem aw_cv {idx ci i np : Nat} {As rest : List Value} {Q' : aw_Q} (hd : decode (aw_cc M) pc = .ok (.invokevirtual idx, 3)) (hl : Cond.methodLink (aw_y M).cls idx (aw_y M') ∈ aw_tbl ∧ Cond.instanceMethod (aw_y M') ∈ aw_tbl ∧ Cond.selects (aw_y M').cls (aw_y M') (aw_y M') ∈ aw_tbl) (ho : aw_ok M' np) (hcl : (classes[ci]?).map (fun q => q.1) = some (aw_y M').cls) (hi : aw_is Ω i (.inl ci)) (hdd : d' + 1 ≤ d) (hn : As.length = np) (hst : st = As.reverse ++ .ref (aw_ad G i) :: rest) (hw : (rest.map fun v => v.category).sum ≤ 8) (hc : aw_Call G M' d' mc' ms' (.ref (aw_ad G i) :: As) Ω I J Q') (hm : k + mc' ≤ mc ∧ n + ms' ≤ ms)
    (kk : ∀ (v : Option Value) (Ω' : aw_O) (I' : aw_MI) (J' : aw_MJ), Q' v Ω' I' J' → AW G M N0 d mc ms Q Ω' I' J' (k + mc') (n + ms') lv (pc + 3) (v.toList ++ rest)) : AW G M N0 d mc ms Q Ω I J k n lv pc st := by
  intro p e R s m args below meth c H locs ls Z hF hL hR hS hE
  have hFx := hF
  obtain ⟨hx, hb, hr, hlk, hml, hown, hts, hK, hnm, hfr, hlo, hmc, hms, hsz, hsc⟩ := hF
  refine aw_back (va_runV (C := (aw_y M').cls) (As := As) (rest := rest) ⟨hx, hb, hml, hown, hts⟩ hc ⟨aw_cb hts ho hl.1 (Nat.le_trans hdd hfr) (by omega), hts _ hl.2.1, hts _ hl.2.2⟩ ⟨aw_blind, ?_, fun U hU hW => ⟨rfl, hK.moved hW, by rw [hU]; exact hR⟩⟩ rfl hn hL.1 hst (lv_room hw) hd ⟨by omega, by omega⟩) hS (fun v Ω' I' J' H1 locs1 hq hR1 hS1 => kk v Ω' I' J' hq p e R s m args below meth c H1 locs1 ls Z hFx hL hR1 hS1 hE)
  cases hq : classes[ci]? with
  | none => rw [hq] at hcl; cases hcl
  | some q =>
    rw [hq] at hcl
    have := va_recv hK.1 hR.1 hq (aw_E_obj (G := G) (I := I) (J := J) hi)
    have h9 : q.1 = (aw_y M').cls := Option.some.inj hcl
    rw [h9] at this
    exact this
/-- invokestatic -/
theorem aw_cs {idx np : Nat} {As rest : List Value} {Q' : aw_Q} (hd : decode (aw_cc M) pc = .ok (.invokestatic idx, 3)) (hl : Cond.methodLink (aw_y M).cls idx (aw_y M') ∈ aw_tbl ∧ Cond.static (aw_y M') ∈ aw_tbl) (ho : aw_ok M' np) (hdd : d' + 1 ≤ d) (hn : As.length = np) (hst : st = As.reverse ++ rest) (hw : (rest.map fun v => v.category).sum ≤ 8) (hc : aw_Call G M' d' mc' ms' As Ω I J Q') (hm : k + mc' ≤ mc ∧ n + ms' ≤ ms)
    (kk : ∀ (v : Option Value) (Ω' : aw_O) (I' : aw_MI) (J' : aw_MJ), Q' v Ω' I' J' → AW G M N0 d mc ms Q Ω' I' J' (k + mc') (n + ms') lv (pc + 3) (v.toList ++ rest)) : AW G M N0 d mc ms Q Ω I J k n lv pc st := by
  intro p e R s m args below meth c H locs ls Z hF hL hR hS hE
  have hFx := hF
  obtain ⟨hx, hb, hr, hlk, hml, hown, hts, hK, hnm, hfr, hlo, hmc, hms, hsz, hsc⟩ := hF
  exact aw_back (va_runS (As := As) (rest := rest) ⟨hx, hb, hml, hown, hts⟩ hc ⟨aw_cb hts ho hl.1 (Nat.le_trans hdd hfr) (by omega), hts _ hl.2⟩ ⟨aw_blind, fun U hU hW => ⟨rfl, hK.moved hW, by rw [hU]; exact hR⟩⟩ rfl hn hL.1 hst (lv_room hw) hd ⟨by omega, by omega⟩) hS (fun v Ω' I' J' H1 locs1 hq hR1 hS1 => kk v Ω' I' J' hq p e R s m args below meth c H1 locs1 ls Z hFx hL hR1 hS1 hE)
end AWK
end
