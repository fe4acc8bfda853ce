section
-- ===== PART A: goes FIRST, ahead of the names: the tables' words, and 'selects' of the private methods out of them =====
/-- a private method of a class that the tables say can be made, by its rows of tables_1 -/
def lw_okq (q : MethodName × Nat) : Prop := (q.1.cls ≠ "java/lang/invoke/MethodHandle" ∧ q.1.cls ≠ "java/lang/invoke/VarHandle") ∧ Cond.instantiable q.1.cls q.2 ∈ tables_1 ∧ Cond.privateMethod q.1 ∈ tables_1 ∧ Cond.instanceMethod q.1 ∈ tables_1
theorem lw_p0 : lw_okq (⟨"PrettyShapes", "readDoc", "()V"⟩, 10) := ⟨⟨by decide +kernel, by decide +kernel⟩, List.mem_of_getElem? (i := 12) (by decide +kernel), List.mem_of_getElem? (i := 262) (by decide +kernel), List.mem_of_getElem? (i := 263) (by decide +kernel)⟩
theorem lw_p1 : lw_okq (⟨"PrettyShapes$Doc", "goesOn", "(II)Z"⟩, 13) := ⟨⟨by decide +kernel, by decide +kernel⟩, List.mem_of_getElem? (i := 20) (by decide +kernel), List.mem_of_getElem? (i := 270) (by decide +kernel), List.mem_of_getElem? (i := 271) (by decide +kernel)⟩
theorem lw_p2 : lw_okq (⟨"PrettyShapes$Doc", "takesFigure", "(I)Z"⟩, 13) := ⟨⟨by decide +kernel, by decide +kernel⟩, List.mem_of_getElem? (i := 20) (by decide +kernel), List.mem_of_getElem? (i := 278) (by decide +kernel), List.mem_of_getElem? (i := 279) (by decide +kernel)⟩
theorem lw_p3 : lw_okq (⟨"PrettyShapes$Doc", "begin", "(III)V"⟩, 13) := ⟨⟨by decide +kernel, by decide +kernel⟩, List.mem_of_getElem? (i := 20) (by decide +kernel), List.mem_of_getElem? (i := 285) (by decide +kernel), List.mem_of_getElem? (i := 286) (by decide +kernel)⟩
theorem lw_p4 : lw_okq (⟨"PrettyShapes$Doc", "hangBelowOpen", "(I)V"⟩, 13) := ⟨⟨by decide +kernel, by decide +kernel⟩, List.mem_of_getElem? (i := 20) (by decide +kernel), List.mem_of_getElem? (i := 289) (by decide +kernel), List.mem_of_getElem? (i := 290) (by decide +kernel)⟩
theorem lw_p5 : lw_okq (⟨"PrettyShapes$Doc", "closeFull", "()V"⟩, 13) := ⟨⟨by decide +kernel, by decide +kernel⟩, List.mem_of_getElem? (i := 20) (by decide +kernel), List.mem_of_getElem? (i := 293) (by decide +kernel), List.mem_of_getElem? (i := 294) (by decide +kernel)⟩
theorem lw_p6 : lw_okq (⟨"PrettyShapes$Doc", "hasTwo", "(I)Z"⟩, 13) := ⟨⟨by decide +kernel, by decide +kernel⟩, List.mem_of_getElem? (i := 20) (by decide +kernel), List.mem_of_getElem? (i := 297) (by decide +kernel), List.mem_of_getElem? (i := 298) (by decide +kernel)⟩
theorem lw_p7 : lw_okq (⟨"PrettyShapes$Doc", "measure", "()V"⟩, 13) := ⟨⟨by decide +kernel, by decide +kernel⟩, List.mem_of_getElem? (i := 20) (by decide +kernel), List.mem_of_getElem? (i := 301) (by decide +kernel), List.mem_of_getElem? (i := 302) (by decide +kernel)⟩
theorem lw_p8 : lw_okq (⟨"PrettyShapes$Doc", "sizeBelow", "(I)I"⟩, 13) := ⟨⟨by decide +kernel, by decide +kernel⟩, List.mem_of_getElem? (i := 20) (by decide +kernel), List.mem_of_getElem? (i := 305) (by decide +kernel), List.mem_of_getElem? (i := 306) (by decide +kernel)⟩
theorem lw_p9 : lw_okq (⟨"PrettyShapes$Ways", "shapeOne", "(LPrettyShapes$Doc;II)V"⟩, 7) := ⟨⟨by decide +kernel, by decide +kernel⟩, List.mem_of_getElem? (i := 141) (by decide +kernel), List.mem_of_getElem? (i := 317) (by decide +kernel), List.mem_of_getElem? (i := 318) (by decide +kernel)⟩
theorem lw_p10 : lw_okq (⟨"PrettyShapes$Ways", "stands", "(I)Z"⟩, 7) := ⟨⟨by decide +kernel, by decide +kernel⟩, List.mem_of_getElem? (i := 141) (by decide +kernel), List.mem_of_getElem? (i := 338) (by decide +kernel), List.mem_of_getElem? (i := 339) (by decide +kernel)⟩
theorem lw_p11 : lw_okq (⟨"PrettyShapes$Ways", "findLines", "()V"⟩, 7) := ⟨⟨by decide +kernel, by decide +kernel⟩, List.mem_of_getElem? (i := 141) (by decide +kernel), List.mem_of_getElem? (i := 351) (by decide +kernel), List.mem_of_getElem? (i := 352) (by decide +kernel)⟩
theorem lw_p12 : lw_okq (⟨"PrettyShapes$Ways", "findShrinks", "()V"⟩, 7) := ⟨⟨by decide +kernel, by decide +kernel⟩, List.mem_of_getElem? (i := 141) (by decide +kernel), List.mem_of_getElem? (i := 355) (by decide +kernel), List.mem_of_getElem? (i := 356) (by decide +kernel)⟩
theorem lw_p13 : lw_okq (⟨"PrettyShapes", "chooseBest", "()V"⟩, 10) := ⟨⟨by decide +kernel, by decide +kernel⟩, List.mem_of_getElem? (i := 12) (by decide +kernel), List.mem_of_getElem? (i := 359) (by decide +kernel), List.mem_of_getElem? (i := 360) (by decide +kernel)⟩
theorem lw_p14 : lw_okq (⟨"PrettyShapes$Frontiers", "tryLast", "(II)V"⟩, 4) := ⟨⟨by decide +kernel, by decide +kernel⟩, List.mem_of_getElem? (i := 90) (by decide +kernel), List.mem_of_getElem? (i := 371) (by decide +kernel), List.mem_of_getElem? (i := 372) (by decide +kernel)⟩
theorem lw_p15 : lw_okq (⟨"PrettyShapes$Frontiers", "trialPlace", "(I)I"⟩, 4) := ⟨⟨by decide +kernel, by decide +kernel⟩, List.mem_of_getElem? (i := 90) (by decide +kernel), List.mem_of_getElem? (i := 375) (by decide +kernel), List.mem_of_getElem? (i := 376) (by decide +kernel)⟩
def lw_privs_1 : List (MethodName × Nat) := [(⟨"PrettyShapes", "readDoc", "()V"⟩, 10), (⟨"PrettyShapes$Doc", "goesOn", "(II)Z"⟩, 13), (⟨"PrettyShapes$Doc", "takesFigure", "(I)Z"⟩, 13), (⟨"PrettyShapes$Doc", "begin", "(III)V"⟩, 13), (⟨"PrettyShapes$Doc", "hangBelowOpen", "(I)V"⟩, 13), (⟨"PrettyShapes$Doc", "closeFull", "()V"⟩, 13), (⟨"PrettyShapes$Doc", "hasTwo", "(I)Z"⟩, 13), (⟨"PrettyShapes$Doc", "measure", "()V"⟩, 13), (⟨"PrettyShapes$Doc", "sizeBelow", "(I)I"⟩, 13), (⟨"PrettyShapes$Ways", "shapeOne", "(LPrettyShapes$Doc;II)V"⟩, 7), (⟨"PrettyShapes$Ways", "stands", "(I)Z"⟩, 7), (⟨"PrettyShapes$Ways", "findLines", "()V"⟩, 7), (⟨"PrettyShapes$Ways", "findShrinks", "()V"⟩, 7), (⟨"PrettyShapes", "chooseBest", "()V"⟩, 10), (⟨"PrettyShapes$Frontiers", "tryLast", "(II)V"⟩, 4), (⟨"PrettyShapes$Frontiers", "trialPlace", "(I)I"⟩, 4)]
theorem lw_r1 : ∀ q ∈ lw_privs_1, lw_okq q := List.forall_mem_cons.mpr ⟨lw_p0, List.forall_mem_cons.mpr ⟨lw_p1, List.forall_mem_cons.mpr ⟨lw_p2, List.forall_mem_cons.mpr ⟨lw_p3, List.forall_mem_cons.mpr ⟨lw_p4, List.forall_mem_cons.mpr ⟨lw_p5, List.forall_mem_cons.mpr ⟨lw_p6, List.forall_mem_cons.mpr ⟨lw_p7, List.forall_mem_cons.mpr ⟨lw_p8, List.forall_mem_cons.mpr ⟨lw_p9, List.forall_mem_cons.mpr ⟨lw_p10, List.forall_mem_cons.mpr ⟨lw_p11, List.forall_mem_cons.mpr ⟨lw_p12, List.forall_mem_cons.mpr ⟨lw_p13, List.forall_mem_cons.mpr ⟨lw_p14, List.forall_mem_cons.mpr ⟨lw_p15, fun _ h => absurd h List.not_mem_nil⟩⟩⟩⟩⟩⟩⟩⟩⟩⟩⟩⟩⟩⟩⟩⟩
theorem lw_p16 : lw_okq (⟨"PrettyShapes$Frontiers", "tryEach", "(IIII)V"⟩, 4) := ⟨⟨by decide +kernel, by decide +kernel⟩, List.mem_of_getElem? (i := 90) (by decide +kernel), List.mem_of_getElem? (i := 385) (by decide +kernel), List.mem_of_getElem? (i := 386) (by decide +kernel)⟩
theorem lw_p17 : lw_okq (⟨"PrettyShapes$Frontiers", "tryPairs", "(LPrettyShapes$Doc;II)V"⟩, 4) := ⟨⟨by decide +kernel, by decide +kernel⟩, List.mem_of_getElem? (i := 90) (by decide +kernel), List.mem_of_getElem? (i := 393) (by decide +kernel), List.mem_of_getElem? (i := 394) (by decide +kernel)⟩
theorem lw_p18 : lw_okq (⟨"PrettyShapes$Frontiers", "tryAlone", "(LPrettyShapes$Doc;II)V"⟩, 4) := ⟨⟨by decide +kernel, by decide +kernel⟩, List.mem_of_getElem? (i := 90) (by decide +kernel), List.mem_of_getElem? (i := 398) (by decide +kernel), List.mem_of_getElem? (i := 399) (by decide +kernel)⟩
theorem lw_p19 : lw_okq (⟨"PrettyShapes", "keepBest", "(I)V"⟩, 10) := ⟨⟨by decide +kernel, by decide +kernel⟩, List.mem_of_getElem? (i := 12) (by decide +kernel), List.mem_of_getElem? (i := 423) (by decide +kernel), List.mem_of_getElem? (i := 424) (by decide +kernel)⟩
theorem lw_p20 : lw_okq (⟨"PrettyShapes$Setting", "putAt", "(III)V"⟩, 6) := ⟨⟨by decide +kernel, by decide +kernel⟩, List.mem_of_getElem? (i := 174) (by decide +kernel), List.mem_of_getElem? (i := 434) (by decide +kernel), List.mem_of_getElem? (i := 435) (by decide +kernel)⟩
theorem lw_p21 : lw_okq (⟨"PrettyShapes$Setting", "placeBelow", "(LPrettyShapes$Doc;LPrettyShapes$Shapes;II)V"⟩, 6) := ⟨⟨by decide +kernel, by decide +kernel⟩, List.mem_of_getElem? (i := 174) (by decide +kernel), List.mem_of_getElem? (i := 440) (by decide +kernel), List.mem_of_getElem? (i := 441) (by decide +kernel)⟩
theorem lw_p22 : lw_okq (⟨"PrettyShapes", "sheetOf", "(I)LPrettyShapes$Sheet;"⟩, 10) := ⟨⟨by decide +kernel, by decide +kernel⟩, List.mem_of_getElem? (i := 12) (by decide +kernel), List.mem_of_getElem? (i := 464) (by decide +kernel), List.mem_of_getElem? (i := 465) (by decide +kernel)⟩
theorem lw_p23 : lw_okq (⟨"PrettyShapes", "found", "(I)I"⟩, 10) := ⟨⟨by decide +kernel, by decide +kernel⟩, List.mem_of_getElem? (i := 12) (by decide +kernel), List.mem_of_getElem? (i := 472) (by decide +kernel), List.mem_of_getElem? (i := 473) (by decide +kernel)⟩
theorem lw_p24 : lw_okq (⟨"PrettyShapes$Setting", "isWordOn", "(II)Z"⟩, 6) := ⟨⟨by decide +kernel, by decide +kernel⟩, List.mem_of_getElem? (i := 174) (by decide +kernel), List.mem_of_getElem? (i := 506) (by decide +kernel), List.mem_of_getElem? (i := 507) (by decide +kernel)⟩
theorem lw_p25 : lw_okq (⟨"PrettyShapes$Ways", "isAny", "(III)Z"⟩, 7) := ⟨⟨by decide +kernel, by decide +kernel⟩, List.mem_of_getElem? (i := 141) (by decide +kernel), List.mem_of_getElem? (i := 532) (by decide +kernel), List.mem_of_getElem? (i := 533) (by decide +kernel)⟩
theorem lw_p26 : lw_okq (⟨"PrettyShapes$Ways", "fits", "(II)Z"⟩, 7) := ⟨⟨by decide +kernel, by decide +kernel⟩, List.mem_of_getElem? (i := 141) (by decide +kernel), List.mem_of_getElem? (i := 536) (by decide +kernel), List.mem_of_getElem? (i := 537) (by decide +kernel)⟩
theorem lw_p27 : lw_okq (⟨"PrettyShapes", "digestParts", "(J)J"⟩, 10) := ⟨⟨by decide +kernel, by decide +kernel⟩, List.mem_of_getElem? (i := 12) (by decide +kernel), List.mem_of_getElem? (i := 628) (by decide +kernel), List.mem_of_getElem? (i := 629) (by decide +kernel)⟩
theorem lw_p28 : lw_okq (⟨"PrettyShapes", "digestShape", "(JII)J"⟩, 10) := ⟨⟨by decide +kernel, by decide +kernel⟩, List.mem_of_getElem? (i := 12) (by decide +kernel), List.mem_of_getElem? (i := 633) (by decide +kernel), List.mem_of_getElem? (i := 634) (by decide +kernel)⟩
theorem lw_p29 : lw_okq (⟨"PrettyShapes", "digestBest", "(J)J"⟩, 10) := ⟨⟨by decide +kernel, by decide +kernel⟩, List.mem_of_getElem? (i := 12) (by decide +kernel), List.mem_of_getElem? (i := 638) (by decide +kernel), List.mem_of_getElem? (i := 639) (by decide +kernel)⟩
theorem lw_p30 : lw_okq (⟨"PrettyShapes", "digestWays", "(J)J"⟩, 10) := ⟨⟨by decide +kernel, by decide +kernel⟩, List.mem_of_getElem? (i := 12) (by decide +kernel), List.mem_of_getElem? (i := 643) (by decide +kernel), List.mem_of_getElem? (i := 644) (by decide +kernel)⟩
theorem lw_p31 : lw_okq (⟨"PrettyShapesModel", "meets", "(I)I"⟩, 31) := ⟨⟨by decide +kernel, by decide +kernel⟩, List.mem_of_getElem? (i := 652) (by decide +kernel), List.mem_of_getElem? (i := 778) (by decide +kernel), List.mem_of_getElem? (i := 779) (by decide +kernel)⟩
def lw_privs_2 : List (MethodName × Nat) := [(⟨"PrettyShapes$Frontiers", "tryEach", "(IIII)V"⟩, 4), (⟨"PrettyShapes$Frontiers", "tryPairs", "(LPrettyShapes$Doc;II)V"⟩, 4), (⟨"PrettyShapes$Frontiers", "tryAlone", "(LPrettyShapes$Doc;II)V"⟩, 4), (⟨"PrettyShapes", "keepBest", "(I)V"⟩, 10), (⟨"PrettyShapes$Setting", "putAt", "(III)V"⟩, 6), (⟨"PrettyShapes$Setting", "placeBelow", "(LPrettyShapes$Doc;LPrettyShapes$Shapes;II)V"⟩, 6), (⟨"PrettyShapes", "sheetOf", "(I)LPrettyShapes$Sheet;"⟩, 10), (⟨"PrettyShapes", "found", "(I)I"⟩, 10), (⟨"PrettyShapes$Setting", "isWordOn", "(II)Z"⟩, 6), (⟨"PrettyShapes$Ways", "isAny", "(III)Z"⟩, 7), (⟨"PrettyShapes$Ways", "fits", "(II)Z"⟩, 7), (⟨"PrettyShapes", "digestParts", "(J)J"⟩, 10), (⟨"PrettyShapes", "digestShape", "(JII)J"⟩, 10), (⟨"PrettyShapes", "digestBest", "(J)J"⟩, 10), (⟨"PrettyShapes", "digestWays", "(J)J"⟩, 10), (⟨"PrettyShapesModel", "meets", "(I)I"⟩, 31)]
theorem lw_r2 : ∀ q ∈ lw_privs_2, lw_okq q := List.forall_mem_cons.mpr ⟨lw_p16, List.forall_mem_cons.mpr ⟨lw_p17, List.forall_mem_cons.mpr ⟨lw_p18, List.forall_mem_cons.mpr ⟨lw_p19, List.forall_mem_cons.mpr ⟨lw_p20, List.forall_mem_cons.mpr ⟨lw_p21, List.forall_mem_cons.mpr ⟨lw_p22, List.forall_mem_cons.mpr ⟨lw_p23, List.forall_mem_cons.mpr ⟨lw_p24, List.forall_mem_cons.mpr ⟨lw_p25, List.forall_mem_cons.mpr ⟨lw_p26, List.forall_mem_cons.mpr ⟨lw_p27, List.forall_mem_cons.mpr ⟨lw_p28, List.forall_mem_cons.mpr ⟨lw_p29, List.forall_mem_cons.mpr ⟨lw_p30, List.forall_mem_cons.mpr ⟨lw_p31, fun _ h => absurd h List.not_mem_nil⟩⟩⟩⟩⟩⟩⟩⟩⟩⟩⟩⟩⟩⟩⟩⟩
theorem lw_p32 : lw_okq (⟨"PrettyShapesModel", "faultOf", "()I"⟩, 31) := ⟨⟨by decide +kernel, by decide +kernel⟩, List.mem_of_getElem? (i := 652) (by decide +kernel), List.mem_of_getElem? (i := 787) (by decide +kernel), List.mem_of_getElem? (i := 788) (by decide +kernel)⟩
theorem lw_p33 : lw_okq (⟨"PrettyShapesModel", "reads", "()V"⟩, 31) := ⟨⟨by decide +kernel, by decide +kernel⟩, List.mem_of_getElem? (i := 652) (by decide +kernel), List.mem_of_getElem? (i := 791) (by decide +kernel), List.mem_of_getElem? (i := 792) (by decide +kernel)⟩
theorem lw_p34 : lw_okq (⟨"PrettyShapesModel", "readsText", "()I"⟩, 31) := ⟨⟨by decide +kernel, by decide +kernel⟩, List.mem_of_getElem? (i := 652) (by decide +kernel), List.mem_of_getElem? (i := 795) (by decide +kernel), List.mem_of_getElem? (i := 796) (by decide +kernel)⟩
theorem lw_p35 : lw_okq (⟨"PrettyShapesModel", "isPart", "(I)Z"⟩, 31) := ⟨⟨by decide +kernel, by decide +kernel⟩, List.mem_of_getElem? (i := 652) (by decide +kernel), List.mem_of_getElem? (i := 809) (by decide +kernel), List.mem_of_getElem? (i := 810) (by decide +kernel)⟩
theorem lw_p36 : lw_okq (⟨"PrettyShapesModel", "partOf", "(II)I"⟩, 31) := ⟨⟨by decide +kernel, by decide +kernel⟩, List.mem_of_getElem? (i := 652) (by decide +kernel), List.mem_of_getElem? (i := 813) (by decide +kernel), List.mem_of_getElem? (i := 814) (by decide +kernel)⟩
theorem lw_p37 : lw_okq (⟨"PrettyShapesModel", "manyOf", "(I)I"⟩, 31) := ⟨⟨by decide +kernel, by decide +kernel⟩, List.mem_of_getElem? (i := 652) (by decide +kernel), List.mem_of_getElem? (i := 817) (by decide +kernel), List.mem_of_getElem? (i := 818) (by decide +kernel)⟩
theorem lw_p38 : lw_okq (⟨"PrettyShapesModel", "frontsTold", "()V"⟩, 31) := ⟨⟨by decide +kernel, by decide +kernel⟩, List.mem_of_getElem? (i := 652) (by decide +kernel), List.mem_of_getElem? (i := 821) (by decide +kernel), List.mem_of_getElem? (i := 822) (by decide +kernel)⟩
theorem lw_p39 : lw_okq (⟨"PrettyShapesModel", "findsFronts", "(I)V"⟩, 31) := ⟨⟨by decide +kernel, by decide +kernel⟩, List.mem_of_getElem? (i := 652) (by decide +kernel), List.mem_of_getElem? (i := 825) (by decide +kernel), List.mem_of_getElem? (i := 826) (by decide +kernel)⟩
theorem lw_p40 : lw_okq (⟨"PrettyShapesModel", "tries", "(II)V"⟩, 31) := ⟨⟨by decide +kernel, by decide +kernel⟩, List.mem_of_getElem? (i := 652) (by decide +kernel), List.mem_of_getElem? (i := 832) (by decide +kernel), List.mem_of_getElem? (i := 833) (by decide +kernel)⟩
theorem lw_p41 : lw_okq (⟨"PrettyShapesModel", "triesChoice", "(I)V"⟩, 31) := ⟨⟨by decide +kernel, by decide +kernel⟩, List.mem_of_getElem? (i := 652) (by decide +kernel), List.mem_of_getElem? (i := 848) (by decide +kernel), List.mem_of_getElem? (i := 849) (by decide +kernel)⟩
theorem lw_p42 : lw_okq (⟨"PrettyShapesModel", "triesBoth", "(I)V"⟩, 31) := ⟨⟨by decide +kernel, by decide +kernel⟩, List.mem_of_getElem? (i := 652) (by decide +kernel), List.mem_of_getElem? (i := 852) (by decide +kernel), List.mem_of_getElem? (i := 853) (by decide +kernel)⟩
theorem lw_p43 : lw_okq (⟨"PrettyShapesModel", "frontierOf", "(III)I"⟩, 31) := ⟨⟨by decide +kernel, by decide +kernel⟩, List.mem_of_getElem? (i := 652) (by decide +kernel), List.mem_of_getElem? (i := 872) (by decide +kernel), List.mem_of_getElem? (i := 873) (by decide +kernel)⟩
theorem lw_p44 : lw_okq (⟨"PrettyShapesModel", "triedOf", "(I)I"⟩, 31) := ⟨⟨by decide +kernel, by decide +kernel⟩, List.mem_of_getElem? (i := 652) (by decide +kernel), List.mem_of_getElem? (i := 883) (by decide +kernel), List.mem_of_getElem? (i := 884) (by decide +kernel)⟩
theorem lw_p45 : lw_okq (⟨"PrettyShapesModel", "bestOf", "(I)I"⟩, 31) := ⟨⟨by decide +kernel, by decide +kernel⟩, List.mem_of_getElem? (i := 652) (by decide +kernel), List.mem_of_getElem? (i := 891) (by decide +kernel), List.mem_of_getElem? (i := 892) (by decide +kernel)⟩
theorem lw_p46 : lw_okq (⟨"PrettyShapesModel", "findsBest", "()V"⟩, 31) := ⟨⟨by decide +kernel, by decide +kernel⟩, List.mem_of_getElem? (i := 652) (by decide +kernel), List.mem_of_getElem? (i := 895) (by decide +kernel), List.mem_of_getElem? (i := 896) (by decide +kernel)⟩
theorem lw_p47 : lw_okq (⟨"PrettyShapesModel", "isAhead", "(II)Z"⟩, 31) := ⟨⟨by decide +kernel, by decide +kernel⟩, List.mem_of_getElem? (i := 652) (by decide +kernel), List.mem_of_getElem? (i := 899) (by decide +kernel), List.mem_of_getElem? (i := 900) (by decide +kernel)⟩
def lw_privs_3 : List (MethodName × Nat) := [(⟨"PrettyShapesModel", "faultOf", "()I"⟩, 31), (⟨"PrettyShapesModel", "reads", "()V"⟩, 31), (⟨"PrettyShapesModel", "readsText", "()I"⟩, 31), (⟨"PrettyShapesModel", "isPart", "(I)Z"⟩, 31), (⟨"PrettyShapesModel", "partOf", "(II)I"⟩, 31), (⟨"PrettyShapesModel", "manyOf", "(I)I"⟩, 31), (⟨"PrettyShapesModel", "frontsTold", "()V"⟩, 31), (⟨"PrettyShapesModel", "findsFronts", "(I)V"⟩, 31), (⟨"PrettyShapesModel", "tries", "(II)V"⟩, 31), (⟨"PrettyShapesModel", "triesChoice", "(I)V"⟩, 31), (⟨"PrettyShapesModel", "triesBoth", "(I)V"⟩, 31), (⟨"PrettyShapesModel", "frontierOf", "(III)I"⟩, 31), (⟨"PrettyShapesModel", "triedOf", "(I)I"⟩, 31), (⟨"PrettyShapesModel", "bestOf", "(I)I"⟩, 31), (⟨"PrettyShapesModel", "findsBest", "()V"⟩, 31), (⟨"PrettyShapesModel", "isAhead", "(II)Z"⟩, 31)]
theorem lw_r3 : ∀ q ∈ lw_privs_3, lw_okq q := List.forall_mem_cons.mpr ⟨lw_p32, List.forall_mem_cons.mpr ⟨lw_p33, List.forall_mem_cons.mpr ⟨lw_p34, List.forall_mem_cons.mpr ⟨lw_p35, List.forall_mem_cons.mpr ⟨lw_p36, List.forall_mem_cons.mpr ⟨lw_p37, List.forall_mem_cons.mpr ⟨lw_p38, List.forall_mem_cons.mpr ⟨lw_p39, List.forall_mem_cons.mpr ⟨lw_p40, List.forall_mem_cons.mpr ⟨lw_p41, List.forall_mem_cons.mpr ⟨lw_p42, List.forall_mem_cons.mpr ⟨lw_p43, List.forall_mem_cons.mpr ⟨lw_p44, List.forall_mem_cons.mpr ⟨lw_p45, List.forall_mem_cons.mpr ⟨lw_p46, List.forall_mem_cons.mpr ⟨lw_p47, fun _ h => absurd h List.not_mem_nil⟩⟩⟩⟩⟩⟩⟩⟩⟩⟩⟩⟩⟩⟩⟩⟩
theorem lw_p48 : lw_okq (⟨"PrettyShapesModel", "wayFor", "(II)I"⟩, 31) := ⟨⟨by decide +kernel, by decide +kernel⟩, List.mem_of_getElem? (i := 652) (by decide +kernel), List.mem_of_getElem? (i := 907) (by decide +kernel), List.mem_of_getElem? (i := 908) (by decide +kernel)⟩
theorem lw_p49 : lw_okq (⟨"PrettyShapesModel", "shapeOf", "(I)I"⟩, 31) := ⟨⟨by decide +kernel, by decide +kernel⟩, List.mem_of_getElem? (i := 652) (by decide +kernel), List.mem_of_getElem? (i := 911) (by decide +kernel), List.mem_of_getElem? (i := 912) (by decide +kernel)⟩
theorem lw_p50 : lw_okq (⟨"PrettyShapesModel", "shapeBy", "(II)I"⟩, 31) := ⟨⟨by decide +kernel, by decide +kernel⟩, List.mem_of_getElem? (i := 652) (by decide +kernel), List.mem_of_getElem? (i := 915) (by decide +kernel), List.mem_of_getElem? (i := 916) (by decide +kernel)⟩
theorem lw_p51 : lw_okq (⟨"PrettyShapesModel", "lineOf", "(II)I"⟩, 31) := ⟨⟨by decide +kernel, by decide +kernel⟩, List.mem_of_getElem? (i := 652) (by decide +kernel), List.mem_of_getElem? (i := 926) (by decide +kernel), List.mem_of_getElem? (i := 927) (by decide +kernel)⟩
theorem lw_p52 : lw_okq (⟨"PrettyShapesModel", "sets", "()V"⟩, 31) := ⟨⟨by decide +kernel, by decide +kernel⟩, List.mem_of_getElem? (i := 652) (by decide +kernel), List.mem_of_getElem? (i := 930) (by decide +kernel), List.mem_of_getElem? (i := 931) (by decide +kernel)⟩
theorem lw_p53 : lw_okq (⟨"PrettyShapesModel", "setsBelow", "(I)V"⟩, 31) := ⟨⟨by decide +kernel, by decide +kernel⟩, List.mem_of_getElem? (i := 652) (by decide +kernel), List.mem_of_getElem? (i := 934) (by decide +kernel), List.mem_of_getElem? (i := 935) (by decide +kernel)⟩
theorem lw_p54 : lw_okq (⟨"PrettyShapesModel", "puts", "(III)V"⟩, 31) := ⟨⟨by decide +kernel, by decide +kernel⟩, List.mem_of_getElem? (i := 652) (by decide +kernel), List.mem_of_getElem? (i := 938) (by decide +kernel), List.mem_of_getElem? (i := 939) (by decide +kernel)⟩
theorem lw_p55 : lw_okq (⟨"PrettyShapesModel", "columnsIn", "(I)I"⟩, 31) := ⟨⟨by decide +kernel, by decide +kernel⟩, List.mem_of_getElem? (i := 652) (by decide +kernel), List.mem_of_getElem? (i := 942) (by decide +kernel), List.mem_of_getElem? (i := 943) (by decide +kernel)⟩
theorem lw_p56 : lw_okq (⟨"PrettyShapesModel", "byteIn", "(II)I"⟩, 31) := ⟨⟨by decide +kernel, by decide +kernel⟩, List.mem_of_getElem? (i := 652) (by decide +kernel), List.mem_of_getElem? (i := 946) (by decide +kernel), List.mem_of_getElem? (i := 947) (by decide +kernel)⟩
theorem lw_p57 : lw_okq (⟨"PrettyShapesModel", "hasteOf", "(I)I"⟩, 31) := ⟨⟨by decide +kernel, by decide +kernel⟩, List.mem_of_getElem? (i := 652) (by decide +kernel), List.mem_of_getElem? (i := 954) (by decide +kernel), List.mem_of_getElem? (i := 955) (by decide +kernel)⟩
theorem lw_p58 : lw_okq (⟨"PrettyShapesModel", "findsWays", "()V"⟩, 31) := ⟨⟨by decide +kernel, by decide +kernel⟩, List.mem_of_getElem? (i := 652) (by decide +kernel), List.mem_of_getElem? (i := 958) (by decide +kernel), List.mem_of_getElem? (i := 959) (by decide +kernel)⟩
theorem lw_p59 : lw_okq (⟨"PrettyShapesModel", "isAny", "(II)Z"⟩, 31) := ⟨⟨by decide +kernel, by decide +kernel⟩, List.mem_of_getElem? (i := 652) (by decide +kernel), List.mem_of_getElem? (i := 962) (by decide +kernel), List.mem_of_getElem? (i := 963) (by decide +kernel)⟩
theorem lw_p60 : lw_okq (⟨"PrettyShapesModel", "isAllowed", "(II)Z"⟩, 31) := ⟨⟨by decide +kernel, by decide +kernel⟩, List.mem_of_getElem? (i := 652) (by decide +kernel), List.mem_of_getElem? (i := 966) (by decide +kernel), List.mem_of_getElem? (i := 967) (by decide +kernel)⟩
theorem lw_p61 : lw_okq (⟨"PrettyShapesModel", "enoughOf", "()I"⟩, 31) := ⟨⟨by decide +kernel, by decide +kernel⟩, List.mem_of_getElem? (i := 652) (by decide +kernel), List.mem_of_getElem? (i := 974) (by decide +kernel), List.mem_of_getElem? (i := 975) (by decide +kernel)⟩
theorem lw_p62 : lw_okq (⟨"PrettyShapesModel", "leastMost", "()I"⟩, 31) := ⟨⟨by decide +kernel, by decide +kernel⟩, List.mem_of_getElem? (i := 652) (by decide +kernel), List.mem_of_getElem? (i := 978) (by decide +kernel), List.mem_of_getElem? (i := 979) (by decide +kernel)⟩
theorem lw_p63 : lw_okq (⟨"PrettyShapesModel", "shrinksOf", "(I)I"⟩, 31) := ⟨⟨by decide +kernel, by decide +kernel⟩, List.mem_of_getElem? (i := 652) (by decide +kernel), List.mem_of_getElem? (i := 986) (by decide +kernel), List.mem_of_getElem? (i := 987) (by decide +kernel)⟩
def lw_privs_4 : List (MethodName × Nat) := [(⟨"PrettyShapesModel", "wayFor", "(II)I"⟩, 31), (⟨"PrettyShapesModel", "shapeOf", "(I)I"⟩, 31), (⟨"PrettyShapesModel", "shapeBy", "(II)I"⟩, 31), (⟨"PrettyShapesModel", "lineOf", "(II)I"⟩, 31), (⟨"PrettyShapesModel", "sets", "()V"⟩, 31), (⟨"PrettyShapesModel", "setsBelow", "(I)V"⟩, 31), (⟨"PrettyShapesModel", "puts", "(III)V"⟩, 31), (⟨"PrettyShapesModel", "columnsIn", "(I)I"⟩, 31), (⟨"PrettyShapesModel", "byteIn", "(II)I"⟩, 31), (⟨"PrettyShapesModel", "hasteOf", "(I)I"⟩, 31), (⟨"PrettyShapesModel", "findsWays", "()V"⟩, 31), (⟨"PrettyShapesModel", "isAny", "(II)Z"⟩, 31), (⟨"PrettyShapesModel", "isAllowed", "(II)Z"⟩, 31), (⟨"PrettyShapesModel", "enoughOf", "()I"⟩, 31), (⟨"PrettyShapesModel", "leastMost", "()I"⟩, 31), (⟨"PrettyShapesModel", "shrinksOf", "(I)I"⟩, 31)]
theorem lw_r4 : ∀ q ∈ lw_privs_4, lw_okq q := List.forall_mem_cons.mpr ⟨lw_p48, List.forall_mem_cons.mpr ⟨lw_p49, List.forall_mem_cons.mpr ⟨lw_p50, List.forall_mem_cons.mpr ⟨lw_p51, List.forall_mem_cons.mpr ⟨lw_p52, List.forall_mem_cons.mpr ⟨lw_p53, List.forall_mem_cons.mpr ⟨lw_p54, List.forall_mem_cons.mpr ⟨lw_p55, List.forall_mem_cons.mpr ⟨lw_p56, List.forall_mem_cons.mpr ⟨lw_p57, List.forall_mem_cons.mpr ⟨lw_p58, List.forall_mem_cons.mpr ⟨lw_p59, List.forall_mem_cons.mpr ⟨lw_p60, List.forall_mem_cons.mpr ⟨lw_p61, List.forall_mem_cons.mpr ⟨lw_p62, List.forall_mem_cons.mpr ⟨lw_p63, fun _ h => absurd h List.not_mem_nil⟩⟩⟩⟩⟩⟩⟩⟩⟩⟩⟩⟩⟩⟩⟩⟩
theorem lw_p64 : lw_okq (⟨"PrettyShapesModel", "fewest", "(II)I"⟩, 31) := ⟨⟨by decide +kernel, by decide +kernel⟩, List.mem_of_getElem? (i := 652) (by decide +kernel), List.mem_of_getElem? (i := 990) (by decide +kernel), List.mem_of_getElem? (i := 991) (by decide +kernel)⟩
theorem lw_p65 : lw_okq (⟨"PrettyShapesModel", "spareOf", "()I"⟩, 31) := ⟨⟨by decide +kernel, by decide +kernel⟩, List.mem_of_getElem? (i := 652) (by decide +kernel), List.mem_of_getElem? (i := 998) (by decide +kernel), List.mem_of_getElem? (i := 999) (by decide +kernel)⟩
theorem lw_p66 : lw_okq (⟨"PrettyShapesModel", "linesWithout", "(I)I"⟩, 31) := ⟨⟨by decide +kernel, by decide +kernel⟩, List.mem_of_getElem? (i := 652) (by decide +kernel), List.mem_of_getElem? (i := 1002) (by decide +kernel), List.mem_of_getElem? (i := 1003) (by decide +kernel)⟩
theorem lw_p67 : lw_okq (⟨"PrettyShapesModel", "leastWithout", "(I)I"⟩, 31) := ⟨⟨by decide +kernel, by decide +kernel⟩, List.mem_of_getElem? (i := 652) (by decide +kernel), List.mem_of_getElem? (i := 1006) (by decide +kernel), List.mem_of_getElem? (i := 1007) (by decide +kernel)⟩
theorem lw_p68 : lw_okq (⟨"PrettyShapesModel", "isOverBy", "(I)Z"⟩, 31) := ⟨⟨by decide +kernel, by decide +kernel⟩, List.mem_of_getElem? (i := 652) (by decide +kernel), List.mem_of_getElem? (i := 1010) (by decide +kernel), List.mem_of_getElem? (i := 1011) (by decide +kernel)⟩
theorem lw_p69 : lw_okq (⟨"PrettyShapesModel", "lacks", "(III)I"⟩, 31) := ⟨⟨by decide +kernel, by decide +kernel⟩, List.mem_of_getElem? (i := 652) (by decide +kernel), List.mem_of_getElem? (i := 1026) (by decide +kernel), List.mem_of_getElem? (i := 1027) (by decide +kernel)⟩
theorem lw_p70 : lw_okq (⟨"PrettyShapesModel", "keep", "(III)V"⟩, 31) := ⟨⟨by decide +kernel, by decide +kernel⟩, List.mem_of_getElem? (i := 652) (by decide +kernel), List.mem_of_getElem? (i := 1030) (by decide +kernel), List.mem_of_getElem? (i := 1031) (by decide +kernel)⟩
theorem lw_p71 : lw_okq (⟨"PrettyShapesModel", "partsOf", "()I"⟩, 31) := ⟨⟨by decide +kernel, by decide +kernel⟩, List.mem_of_getElem? (i := 652) (by decide +kernel), List.mem_of_getElem? (i := 1051) (by decide +kernel), List.mem_of_getElem? (i := 1052) (by decide +kernel)⟩
theorem lw_p72 : lw_okq (⟨"PrettyShapesModel", "choicesOf", "()I"⟩, 31) := ⟨⟨by decide +kernel, by decide +kernel⟩, List.mem_of_getElem? (i := 652) (by decide +kernel), List.mem_of_getElem? (i := 1055) (by decide +kernel), List.mem_of_getElem? (i := 1056) (by decide +kernel)⟩
theorem lw_p73 : lw_okq (⟨"PrettyShapesModel", "wholeOf", "()I"⟩, 31) := ⟨⟨by decide +kernel, by decide +kernel⟩, List.mem_of_getElem? (i := 652) (by decide +kernel), List.mem_of_getElem? (i := 1059) (by decide +kernel), List.mem_of_getElem? (i := 1060) (by decide +kernel)⟩
theorem lw_p74 : lw_okq (⟨"PrettyShapesModel", "partDigest", "(JI)J"⟩, 31) := ⟨⟨by decide +kernel, by decide +kernel⟩, List.mem_of_getElem? (i := 652) (by decide +kernel), List.mem_of_getElem? (i := 1070) (by decide +kernel), List.mem_of_getElem? (i := 1071) (by decide +kernel)⟩
def lw_privs_5 : List (MethodName × Nat) := [(⟨"PrettyShapesModel", "fewest", "(II)I"⟩, 31), (⟨"PrettyShapesModel", "spareOf", "()I"⟩, 31), (⟨"PrettyShapesModel", "linesWithout", "(I)I"⟩, 31), (⟨"PrettyShapesModel", "leastWithout", "(I)I"⟩, 31), (⟨"PrettyShapesModel", "isOverBy", "(I)Z"⟩, 31), (⟨"PrettyShapesModel", "lacks", "(III)I"⟩, 31), (⟨"PrettyShapesModel", "keep", "(III)V"⟩, 31), (⟨"PrettyShapesModel", "partsOf", "()I"⟩, 31), (⟨"PrettyShapesModel", "choicesOf", "()I"⟩, 31), (⟨"PrettyShapesModel", "wholeOf", "()I"⟩, 31), (⟨"PrettyShapesModel", "partDigest", "(JI)J"⟩, 31)]
theorem lw_r5 : ∀ q ∈ lw_privs_5, lw_okq q := List.forall_mem_cons.mpr ⟨lw_p64, List.forall_mem_cons.mpr ⟨lw_p65, List.forall_mem_cons.mpr ⟨lw_p66, List.forall_mem_cons.mpr ⟨lw_p67, List.forall_mem_cons.mpr ⟨lw_p68, List.forall_mem_cons.mpr ⟨lw_p69, List.forall_mem_cons.mpr ⟨lw_p70, List.forall_mem_cons.mpr ⟨lw_p71, List.forall_mem_cons.mpr ⟨lw_p72, List.forall_mem_cons.mpr ⟨lw_p73, List.forall_mem_cons.mpr ⟨lw_p74, fun _ h => absurd h List.not_mem_nil⟩⟩⟩⟩⟩⟩⟩⟩⟩⟩⟩
def lw_privs : List (MethodName × Nat) := lw_privs_1 ++ (lw_privs_2 ++ (lw_privs_3 ++ (lw_privs_4 ++ (lw_privs_5))))
def lw_tbl : List Cond := k2_sels lw_privs ++ tables_1
theorem lw_privs_ok : ∀ q ∈ lw_privs, lw_okq q := by
  show ∀ q ∈ lw_privs_1 ++ (lw_privs_2 ++ (lw_privs_3 ++ (lw_privs_4 ++ (lw_privs_5)))), lw_okq q
  exact List.forall_mem_append.mpr ⟨lw_r1, List.forall_mem_append.mpr ⟨lw_r2, List.forall_mem_append.mpr ⟨lw_r3, List.forall_mem_append.mpr ⟨lw_r4, lw_r5⟩⟩⟩⟩
-- ===== end of PART A; then your names; then what follows =====
end
section
/-! ===== BEGIN words of one list among another's, by their places ===== -/
theorem goodIn_r {big : List Cond} (ws : List Cond) (ps : List Nat) (hp : ws = ps.filterMap (fun i => big[i]?)) (h : ws.all goodWord = true) : GoodIn big ws := by
  intro w hw
  have h1 := List.all_eq_true.mp h w hw
  rw [hp] at hw
  obtain ⟨i, -, hi⟩ := List.mem_filterMap.mp hw
  have hm : w ∈ big := by first | exact List.mem_of_getElem? hi | exact List.getElem?_mem hi
  exact ⟨hm, good_of_word h1⟩
theorem goodIn_app {big a b : List Cond} (ha : GoodIn big a) (hb : GoodIn big b) : GoodIn big (a ++ b) := fun w h => (List.mem_append.mp h).elim (ha w) (hb w)
theorem goodIn_ca {big a b : List Cond} {c : Cond} (ha : GoodIn big (c :: a)) (hb : GoodIn big b) : GoodIn big (c :: (a ++ b)) := fun w h => (List.mem_cons.mp h).elim (fun e => ha w (List.mem_cons.mpr (Or.inl e))) (fun h => (List.mem_append.mp h).elim (fun h => ha w (List.mem_cons.mpr (Or.inr h))) (hb w))
theorem goodIn_sub {big ws : List Cond} (hm : ∀ w ∈ ws, w ∈ big) (h : ws.all goodWord = true) : GoodIn big ws := fun w hw => ⟨hm w hw, good_of_word (List.all_eq_true.mp h w hw)⟩
/-! ===== END ===== -/

/-! ===== BEGIN printed: names, fields, word lists, decode rows ===== -/
def RX0 : String := "PrettyShapes$Doc"
def TX0 : u_T := fun k => match k with
  | 0 => ("PrettyShapes$Doc", "bytes", "[I", true)
  | 1 => ("PrettyShapes$Doc", "kind", "[I", true)
  | 2 => ("PrettyShapes$Doc", "start", "[I", true)
  | 3 => ("PrettyShapes$Doc", "size", "[I", true)
  | 4 => ("PrettyShapes$Doc", "above", "[I", true)
  | 5 => ("PrettyShapes$Doc", "first", "[I", true)
  | 6 => ("PrettyShapes$Doc", "second", "[I", true)
  | 7 => ("PrettyShapes$Doc", "number", "[I", true)
  | 8 => ("PrettyShapes$Doc", "length", "I", false)
  | 9 => ("PrettyShapes$Doc", "parts", "I", false)
  | 10 => ("PrettyShapes$Doc", "choices", "I", false)
  | 11 => ("PrettyShapes$Doc", "fault", "I", false)
  | _ => ("PrettyShapes$Doc", "open", "I", false)
def tyX0 : Nat → FieldType := fun k => match k with
  | 0 => .array .int
  | 1 => .array .int
  | 2 => .array .int
  | 3 => .array .int
  | 4 => .array .int
  | 5 => .array .int
  | 6 => .array .int
  | 7 => .array .int
  | 8 => .int
  | 9 => .int
  | 10 => .int
  | 11 => .int
  | _ => .int
abbrev wsX00 : List Cond := u_ws RX0 TX0 13
theorem nmX0 : ∀ a, a < 13 → ∀ b, b < 13 → a ≠ b → (TX0 a).2.1 ≠ (TX0 b).2.1 := by decide +kernel
theorem tyX0_ok : ∀ k, k < 13 → parseFieldDescriptor (TX0 k).2.2.1 = some (tyX0 k) := by decide +kernel
abbrev cX0_init : ByteArray := prog_2_method_1_code
def yX0_init : MethodName := ⟨RX0, "<init>", "()V"⟩
abbrev cX0_append : ByteArray := prog_2_method_2_code
def yX0_append : MethodName := ⟨RX0, "append", "(I)Z"⟩
abbrev cX0_hasPart : ByteArray := prog_2_method_3_code
def yX0_hasPart : MethodName := ⟨RX0, "hasPart", "(I)Z"⟩
abbrev cX0_parse : ByteArray := prog_2_method_4_code
def yX0_parse : MethodName := ⟨RX0, "parse", "()V"⟩
abbrev cX0_goesOn : ByteArray := prog_2_method_5_code
def yX0_goesOn : MethodName := ⟨RX0, "goesOn", "(II)Z"⟩
abbrev cX0_takesFigure : ByteArray := prog_2_method_6_code
def yX0_takesFigure : MethodName := ⟨RX0, "takesFigure", "(I)Z"⟩
abbrev cX0_kindOf : ByteArray := prog_2_method_7_code
def yX0_kindOf : MethodName := ⟨RX0, "kindOf", "(I)I"⟩
abbrev cX0_begin : ByteArray := prog_2_method_8_code
def yX0_begin : MethodName := ⟨RX0, "begin", "(III)V"⟩
abbrev cX0_hangBelowOpen : ByteArray := prog_2_method_9_code
def yX0_hangBelowOpen : MethodName := ⟨RX0, "hangBelowOpen", "(I)V"⟩
abbrev cX0_closeFull : ByteArray := prog_2_method_10_code
def yX0_closeFull : MethodName := ⟨RX0, "closeFull", "()V"⟩
abbrev cX0_hasTwo : ByteArray := prog_2_method_11_code
def yX0_hasTwo : MethodName := ⟨RX0, "hasTwo", "(I)Z"⟩
abbrev cX0_measure : ByteArray := prog_2_method_12_code
def yX0_measure : MethodName := ⟨RX0, "measure", "()V"⟩
abbrev cX0_sizeBelow : ByteArray := prog_2_method_13_code
def yX0_sizeBelow : MethodName := ⟨RX0, "sizeBelow", "(I)I"⟩
def RX1 : String := "PrettyShapes$Frontiers"
def TX1 : u_T := fun k => match k with
  | 0 => ("PrettyShapes$Frontiers", "shapes", "LPrettyShapes$Shapes;", true)
  | 1 => ("PrettyShapes$Frontiers", "size", "[I", true)
  | 2 => ("PrettyShapes$Frontiers", "tries", "I", false)
  | _ => ("PrettyShapes$Frontiers", "letGo", "I", false)
def tyX1 : Nat → FieldType := fun k => match k with
  | 0 => .object "PrettyShapes$Shapes"
  | 1 => .array .int
  | 2 => .int
  | _ => .int
abbrev wsX10 : List Cond := u_ws RX1 TX1 4
theorem nmX1 : ∀ a, a < 4 → ∀ b, b < 4 → a ≠ b → (TX1 a).2.1 ≠ (TX1 b).2.1 := by decide +kernel
theorem tyX1_ok : ∀ k, k < 4 → parseFieldDescriptor (TX1 k).2.2.1 = some (tyX1 k) := by decide +kernel
abbrev cX1_init : ByteArray := prog_3_method_1_code
def yX1_init : MethodName := ⟨RX1, "<init>", "()V"⟩
abbrev cX1_sizeOf : ByteArray := prog_3_method_2_code
def yX1_sizeOf : MethodName := ⟨RX1, "sizeOf", "(I)I"⟩
abbrev cX1_make : ByteArray := prog_3_method_3_code
def yX1_make : MethodName := ⟨RX1, "make", "(LPrettyShapes$Doc;I)V"⟩
abbrev cX1_tryEach : ByteArray := prog_3_method_4_code
def yX1_tryEach : MethodName := ⟨RX1, "tryEach", "(IIII)V"⟩
abbrev cX1_tryPairs : ByteArray := prog_3_method_5_code
def yX1_tryPairs : MethodName := ⟨RX1, "tryPairs", "(LPrettyShapes$Doc;II)V"⟩
abbrev cX1_tryAlone : ByteArray := prog_3_method_6_code
def yX1_tryAlone : MethodName := ⟨RX1, "tryAlone", "(LPrettyShapes$Doc;II)V"⟩
abbrev cX1_trialPlace : ByteArray := prog_3_method_7_code
def yX1_trialPlace : MethodName := ⟨RX1, "trialPlace", "(I)I"⟩
abbrev cX1_tryLast : ByteArray := prog_3_method_8_code
def yX1_tryLast : MethodName := ⟨RX1, "tryLast", "(II)V"⟩
abbrev cX1_fewestLines : ByteArray := prog_3_method_9_code
def yX1_fewestLines : MethodName := ⟨RX1, "fewestLines", "()I"⟩
abbrev cX1_leastMost : ByteArray := prog_3_method_10_code
def yX1_leastMost : MethodName := ⟨RX1, "leastMost", "()I"⟩
def RX2 : String := "PrettyShapes$Setting"
def TX2 : u_T := fun k => match k with
  | 0 => ("PrettyShapes$Setting", "isIn", "[Z", true)
  | 1 => ("PrettyShapes$Setting", "line", "[I", true)
  | 2 => ("PrettyShapes$Setting", "column", "[I", true)
  | 3 => ("PrettyShapes$Setting", "columns", "[I", true)
  | 4 => ("PrettyShapes$Setting", "letter", "[I", true)
  | _ => ("PrettyShapes$Setting", "parts", "I", false)
def tyX2 : Nat → FieldType := fun k => match k with
  | 0 => .array .boolean
  | 1 => .array .int
  | 2 => .array .int
  | 3 => .array .int
  | 4 => .array .int
  | _ => .int
abbrev wsX20 : List Cond := u_ws RX2 TX2 6
theorem nmX2 : ∀ a, a < 6 → ∀ b, b < 6 → a ≠ b → (TX2 a).2.1 ≠ (TX2 b).2.1 := by decide +kernel
theorem tyX2_ok : ∀ k, k < 6 → parseFieldDescriptor (TX2 k).2.2.1 = some (tyX2 k) := by decide +kernel
abbrev cX2_init : ByteArray := prog_4_method_1_code
def yX2_init : MethodName := ⟨RX2, "<init>", "()V"⟩
abbrev cX2_clear : ByteArray := prog_4_method_2_code
def yX2_clear : MethodName := ⟨RX2, "clear", "()V"⟩
abbrev cX2_place : ByteArray := prog_4_method_3_code
def yX2_place : MethodName := ⟨RX2, "place", "(LPrettyShapes$Doc;LPrettyShapes$Shapes;)V"⟩
abbrev cX2_putAt : ByteArray := prog_4_method_4_code
def yX2_putAt : MethodName := ⟨RX2, "putAt", "(III)V"⟩
abbrev cX2_placeBelow : ByteArray := prog_4_method_5_code
def yX2_placeBelow : MethodName := ⟨RX2, "placeBelow", "(LPrettyShapes$Doc;LPrettyShapes$Shapes;II)V"⟩
abbrev cX2_isWordOn : ByteArray := prog_4_method_6_code
def yX2_isWordOn : MethodName := ⟨RX2, "isWordOn", "(II)Z"⟩
abbrev cX2_columnsOf : ByteArray := prog_4_method_7_code
def yX2_columnsOf : MethodName := ⟨RX2, "columnsOf", "(I)I"⟩
abbrev cX2_byteAt : ByteArray := prog_4_method_8_code
def yX2_byteAt : MethodName := ⟨RX2, "byteAt", "(II)I"⟩
def RX3 : String := "PrettyShapes$Shapes"
def TX3 : u_T := fun k => match k with
  | 0 => ("PrettyShapes$Shapes", "lines", "[I", true)
  | 1 => ("PrettyShapes$Shapes", "last", "[I", true)
  | 2 => ("PrettyShapes$Shapes", "most", "[I", true)
  | _ => ("PrettyShapes$Shapes", "way", "[I", true)
def tyX3 : Nat → FieldType := fun k => match k with
  | 0 => .array .int
  | 1 => .array .int
  | 2 => .array .int
  | _ => .array .int
abbrev wsX30 : List Cond := u_ws RX3 TX3 4
theorem nmX3 : ∀ a, a < 4 → ∀ b, b < 4 → a ≠ b → (TX3 a).2.1 ≠ (TX3 b).2.1 := by decide +kernel
theorem tyX3_ok : ∀ k, k < 4 → parseFieldDescriptor (TX3 k).2.2.1 = some (tyX3 k) := by decide +kernel
abbrev cX3_init : ByteArray := prog_5_method_1_code
def yX3_init : MethodName := ⟨RX3, "<init>", "(I)V"⟩
abbrev cX3_has : ByteArray := prog_5_method_2_code
def yX3_has : MethodName := ⟨RX3, "has", "(I)Z"⟩
abbrev cX3_set : ByteArray := prog_5_method_3_code
def yX3_set : MethodName := ⟨RX3, "set", "(IIIII)V"⟩
abbrev cX3_setWord : ByteArray := prog_5_method_4_code
def yX3_setWord : MethodName := ⟨RX3, "setWord", "(II)V"⟩
abbrev cX3_setLike : ByteArray := prog_5_method_5_code
def yX3_setLike : MethodName := ⟨RX3, "setLike", "(III)V"⟩
abbrev cX3_setMade : ByteArray := prog_5_method_6_code
def yX3_setMade : MethodName := ⟨RX3, "setMade", "(IIIII)V"⟩
abbrev cX3_noneGreater : ByteArray := prog_5_method_7_code
def yX3_noneGreater : MethodName := ⟨RX3, "noneGreater", "(II)Z"⟩
abbrev cX3_fewerLines : ByteArray := prog_5_method_8_code
def yX3_fewerLines : MethodName := ⟨RX3, "fewerLines", "(II)Z"⟩
abbrev cX3_lessMost : ByteArray := prog_5_method_9_code
def yX3_lessMost : MethodName := ⟨RX3, "lessMost", "(II)Z"⟩
abbrev cX3_tell : ByteArray := prog_5_method_10_code
def yX3_tell : MethodName := ⟨RX3, "tell", "(II)I"⟩
def RX4 : String := "PrettyShapes$Sheet"
def TX4 : u_T := fun k => match k with
  | 0 => ("PrettyShapes$Sheet", "items", "[I", true)
  | 1 => ("PrettyShapes$Sheet", "form", "I", false)
  | _ => ("PrettyShapes$Sheet", "size", "I", false)
def tyX4 : Nat → FieldType := fun k => match k with
  | 0 => .array .int
  | 1 => .int
  | _ => .int
abbrev wsX40 : List Cond := u_ws RX4 TX4 3
theorem nmX4 : ∀ a, a < 3 → ∀ b, b < 3 → a ≠ b → (TX4 a).2.1 ≠ (TX4 b).2.1 := by decide +kernel
theorem tyX4_ok : ∀ k, k < 3 → parseFieldDescriptor (TX4 k).2.2.1 = some (tyX4 k) := by decide +kernel
abbrev cX4_init : ByteArray := prog_6_method_1_code
def yX4_init : MethodName := ⟨RX4, "<init>", "()V"⟩
abbrev cX4_isLost : ByteArray := prog_6_method_2_code
def yX4_isLost : MethodName := ⟨RX4, "isLost", "()Z"⟩
abbrev cX4_renew : ByteArray := prog_6_method_3_code
def yX4_renew : MethodName := ⟨RX4, "renew", "(II)V"⟩
abbrev cX4_hasItems : ByteArray := prog_6_method_4_code
def yX4_hasItems : MethodName := ⟨RX4, "hasItems", "(II)Z"⟩
abbrev cX4_itemAt : ByteArray := prog_6_method_5_code
def yX4_itemAt : MethodName := ⟨RX4, "itemAt", "(I)I"⟩
abbrev cX4_store : ByteArray := prog_6_method_6_code
def yX4_store : MethodName := ⟨RX4, "store", "(II)V"⟩
def RX5 : String := "PrettyShapes$Ways"
def TX5 : u_T := fun k => match k with
  | 0 => ("PrettyShapes$Ways", "parts", "LPrettyShapes$Shapes;", true)
  | 1 => ("PrettyShapes$Ways", "whole", "LPrettyShapes$Shapes;", true)
  | 2 => ("PrettyShapes$Ways", "linesFor", "[I", true)
  | 3 => ("PrettyShapes$Ways", "shrink", "[I", true)
  | 4 => ("PrettyShapes$Ways", "shrinkCount", "I", false)
  | 5 => ("PrettyShapes$Ways", "enoughWidth", "I", false)
  | _ => ("PrettyShapes$Ways", "many", "I", false)
def tyX5 : Nat → FieldType := fun k => match k with
  | 0 => .object "PrettyShapes$Shapes"
  | 1 => .object "PrettyShapes$Shapes"
  | 2 => .array .int
  | 3 => .array .int
  | 4 => .int
  | 5 => .int
  | _ => .int
abbrev wsX50 : List Cond := u_ws RX5 TX5 7
theorem nmX5 : ∀ a, a < 7 → ∀ b, b < 7 → a ≠ b → (TX5 a).2.1 ≠ (TX5 b).2.1 := by decide +kernel
theorem tyX5_ok : ∀ k, k < 7 → parseFieldDescriptor (TX5 k).2.2.1 = some (tyX5 k) := by decide +kernel
abbrev cX5_init : ByteArray := prog_7_method_1_code
def yX5_init : MethodName := ⟨RX5, "<init>", "()V"⟩
abbrev cX5_make : ByteArray := prog_7_method_2_code
def yX5_make : MethodName := ⟨RX5, "make", "(LPrettyShapes$Doc;)V"⟩
abbrev cX5_shapeParts : ByteArray := prog_7_method_3_code
def yX5_shapeParts : MethodName := ⟨RX5, "shapeParts", "(LPrettyShapes$Doc;I)V"⟩
abbrev cX5_shapeOne : ByteArray := prog_7_method_4_code
def yX5_shapeOne : MethodName := ⟨RX5, "shapeOne", "(LPrettyShapes$Doc;II)V"⟩
abbrev cX5_stands : ByteArray := prog_7_method_5_code
def yX5_stands : MethodName := ⟨RX5, "stands", "(I)Z"⟩
abbrev cX5_findLines : ByteArray := prog_7_method_6_code
def yX5_findLines : MethodName := ⟨RX5, "findLines", "()V"⟩
abbrev cX5_findShrinks : ByteArray := prog_7_method_7_code
def yX5_findShrinks : MethodName := ⟨RX5, "findShrinks", "()V"⟩
abbrev cX5_shrinkAt : ByteArray := prog_7_method_8_code
def yX5_shrinkAt : MethodName := ⟨RX5, "shrinkAt", "(I)I"⟩
abbrev cX5_tell : ByteArray := prog_7_method_9_code
def yX5_tell : MethodName := ⟨RX5, "tell", "(II)I"⟩
abbrev cX5_hasty : ByteArray := prog_7_method_10_code
def yX5_hasty : MethodName := ⟨RX5, "hasty", "(II)I"⟩
abbrev cX5_isAny : ByteArray := prog_7_method_11_code
def yX5_isAny : MethodName := ⟨RX5, "isAny", "(III)Z"⟩
abbrev cX5_fits : ByteArray := prog_7_method_12_code
def yX5_fits : MethodName := ⟨RX5, "fits", "(II)Z"⟩
abbrev cX5_fewestLines : ByteArray := prog_7_method_13_code
def yX5_fewestLines : MethodName := ⟨RX5, "fewestLines", "(II)I"⟩
abbrev cX5_linesOfLeastMost : ByteArray := prog_7_method_14_code
def yX5_linesOfLeastMost : MethodName := ⟨RX5, "linesOfLeastMost", "(I)I"⟩
def RX6 : String := "PrettyShapes"
def TX6 : u_T := fun k => match k with
  | 0 => ("PrettyShapes", "doc", "LPrettyShapes$Doc;", true)
  | 1 => ("PrettyShapes", "frontiers", "LPrettyShapes$Frontiers;", true)
  | 2 => ("PrettyShapes", "bestShape", "LPrettyShapes$Shapes;", true)
  | 3 => ("PrettyShapes", "ways", "LPrettyShapes$Ways;", true)
  | 4 => ("PrettyShapes", "setting", "LPrettyShapes$Setting;", true)
  | 5 => ("PrettyShapes", "sheets", "[LPrettyShapes$Sheet;", true)
  | 6 => ("PrettyShapes", "width", "I", false)
  | 7 => ("PrettyShapes", "finding", "I", false)
  | 8 => ("PrettyShapes", "hasBest", "Z", false)
  | _ => ("PrettyShapes", "over", "Z", false)
def tyX6 : Nat → FieldType := fun k => match k with
  | 0 => .object "PrettyShapes$Doc"
  | 1 => .object "PrettyShapes$Frontiers"
  | 2 => .object "PrettyShapes$Shapes"
  | 3 => .object "PrettyShapes$Ways"
  | 4 => .object "PrettyShapes$Setting"
  | 5 => .array (.object "PrettyShapes$Sheet")
  | 6 => .int
  | 7 => .int
  | 8 => .boolean
  | _ => .boolean
abbrev wsX60 : List Cond := u_ws RX6 TX6 10
theorem nmX6 : ∀ a, a < 10 → ∀ b, b < 10 → a ≠ b → (TX6 a).2.1 ≠ (TX6 b).2.1 := by decide +kernel
theorem tyX6_ok : ∀ k, k < 10 → parseFieldDescriptor (TX6 k).2.2.1 = some (tyX6 k) := by decide +kernel
abbrev cX6_init : ByteArray := prog_1_method_1_code
def yX6_init : MethodName := ⟨RX6, "<init>", "()V"⟩
abbrev cX6_type : ByteArray := prog_1_method_2_code
def yX6_type : MethodName := ⟨RX6, "type", "(I)I"⟩
abbrev cX6_wipe : ByteArray := prog_1_method_3_code
def yX6_wipe : MethodName := ⟨RX6, "wipe", "()I"⟩
abbrev cX6_undo : ByteArray := prog_1_method_4_code
def yX6_undo : MethodName := ⟨RX6, "undo", "()I"⟩
abbrev cX6_fault : ByteArray := prog_1_method_5_code
def yX6_fault : MethodName := ⟨RX6, "fault", "()I"⟩
abbrev cX6_width : ByteArray := prog_1_method_6_code
def yX6_width : MethodName := ⟨RX6, "width", "(I)I"⟩
abbrev cX6_read : ByteArray := prog_1_method_7_code
def yX6_read : MethodName := ⟨RX6, "read", "(I)I"⟩
abbrev cX6_part : ByteArray := prog_1_method_8_code
def yX6_part : MethodName := ⟨RX6, "part", "(II)I"⟩
abbrev cX6_frontier : ByteArray := prog_1_method_9_code
def yX6_frontier : MethodName := ⟨RX6, "frontier", "(III)I"⟩
abbrev cX6_tried : ByteArray := prog_1_method_10_code
def yX6_tried : MethodName := ⟨RX6, "tried", "(I)I"⟩
abbrev cX6_best : ByteArray := prog_1_method_11_code
def yX6_best : MethodName := ⟨RX6, "best", "(I)I"⟩
abbrev cX6_line : ByteArray := prog_1_method_12_code
def yX6_line : MethodName := ⟨RX6, "line", "(II)I"⟩
abbrev cX6_way : ByteArray := prog_1_method_13_code
def yX6_way : MethodName := ⟨RX6, "way", "(II)I"⟩
abbrev cX6_haste : ByteArray := prog_1_method_14_code
def yX6_haste : MethodName := ⟨RX6, "haste", "(I)I"⟩
abbrev cX6_enough : ByteArray := prog_1_method_15_code
def yX6_enough : MethodName := ⟨RX6, "enough", "()I"⟩
abbrev cX6_shrinks : ByteArray := prog_1_method_16_code
def yX6_shrinks : MethodName := ⟨RX6, "shrinks", "(I)I"⟩
abbrev cX6_spare : ByteArray := prog_1_method_17_code
def yX6_spare : MethodName := ⟨RX6, "spare", "()I"⟩
abbrev cX6_sheet : ByteArray := prog_1_method_18_code
def yX6_sheet : MethodName := ⟨RX6, "sheet", "(III)I"⟩
abbrev cX6_lose : ByteArray := prog_1_method_19_code
def yX6_lose : MethodName := ⟨RX6, "lose", "(I)I"⟩
abbrev cX6_put : ByteArray := prog_1_method_20_code
def yX6_put : MethodName := ⟨RX6, "put", "(IIII)I"⟩
abbrev cX6_get : ByteArray := prog_1_method_21_code
def yX6_get : MethodName := ⟨RX6, "get", "(III)I"⟩
abbrev cX6_copy : ByteArray := prog_1_method_22_code
def yX6_copy : MethodName := ⟨RX6, "copy", "(IIIII)I"⟩
abbrev cX6_write : ByteArray := prog_1_method_23_code
def yX6_write : MethodName := ⟨RX6, "write", "(II)I"⟩
abbrev cX6_count : ByteArray := prog_1_method_24_code
def yX6_count : MethodName := ⟨RX6, "count", "(I)I"⟩
abbrev cX6_digest : ByteArray := prog_1_method_25_code
def yX6_digest : MethodName := ⟨RX6, "digest", "()J"⟩
abbrev cX6_digestParts : ByteArray := prog_1_method_26_code
def yX6_digestParts : MethodName := ⟨RX6, "digestParts", "(J)J"⟩
abbrev cX6_digestShape : ByteArray := prog_1_method_27_code
def yX6_digestShape : MethodName := ⟨RX6, "digestShape", "(JII)J"⟩
abbrev cX6_digestBest : ByteArray := prog_1_method_28_code
def yX6_digestBest : MethodName := ⟨RX6, "digestBest", "(J)J"⟩
abbrev cX6_digestWays : ByteArray := prog_1_method_29_code
def yX6_digestWays : MethodName := ⟨RX6, "digestWays", "(J)J"⟩
abbrev cX6_readDoc : ByteArray := prog_1_method_30_code
def yX6_readDoc : MethodName := ⟨RX6, "readDoc", "()V"⟩
abbrev cX6_chooseBest : ByteArray := prog_1_method_31_code
def yX6_chooseBest : MethodName := ⟨RX6, "chooseBest", "()V"⟩
abbrev cX6_keepBest : ByteArray := prog_1_method_32_code
def yX6_keepBest : MethodName := ⟨RX6, "keepBest", "(I)V"⟩
abbrev cX6_sheetOf : ByteArray := prog_1_method_33_code
def yX6_sheetOf : MethodName := ⟨RX6, "sheetOf", "(I)LPrettyShapes$Sheet;"⟩
abbrev cX6_isByte : ByteArray := prog_1_method_34_code
def yX6_isByte : MethodName := ⟨RX6, "isByte", "(I)Z"⟩
abbrev cX6_isForm : ByteArray := prog_1_method_35_code
def yX6_isForm : MethodName := ⟨RX6, "isForm", "(I)Z"⟩
abbrev cX6_wrongItem : ByteArray := prog_1_method_36_code
def yX6_wrongItem : MethodName := ⟨RX6, "wrongItem", "(LPrettyShapes$Sheet;II)I"⟩
abbrev cX6_found : ByteArray := prog_1_method_37_code
def yX6_found : MethodName := ⟨RX6, "found", "(I)I"⟩
def RX7 : String := "PrettyShapesModel"
def TX7 : u_T := fun k => match k with
  | 0 => ("PrettyShapesModel", "typed", "I", false)
  | 1 => ("PrettyShapesModel", "text", "[I", true)
  | 2 => ("PrettyShapesModel", "widthTold", "I", false)
  | 3 => ("PrettyShapesModel", "faultAt", "I", false)
  | 4 => ("PrettyShapesModel", "parts", "I", false)
  | 5 => ("PrettyShapesModel", "choices", "I", false)
  | 6 => ("PrettyShapesModel", "kinds", "[I", true)
  | 7 => ("PrettyShapesModel", "numbers", "[I", true)
  | 8 => ("PrettyShapesModel", "begins", "[I", true)
  | 9 => ("PrettyShapesModel", "bytes", "[I", true)
  | 10 => ("PrettyShapesModel", "within", "[I", true)
  | 11 => ("PrettyShapesModel", "seconds", "[I", true)
  | 12 => ("PrettyShapesModel", "above", "[I", true)
  | 13 => ("PrettyShapesModel", "fronts", "[I", true)
  | 14 => ("PrettyShapesModel", "many", "[I", true)
  | 15 => ("PrettyShapesModel", "triedMany", "I", false)
  | 16 => ("PrettyShapesModel", "letGo", "I", false)
  | 17 => ("PrettyShapesModel", "widthNow", "I", false)
  | 18 => ("PrettyShapesModel", "bestNow", "I", false)
  | 19 => ("PrettyShapesModel", "isOver", "Z", false)
  | 20 => ("PrettyShapesModel", "shapes", "[I", true)
  | 21 => ("PrettyShapesModel", "byWay", "[I", true)
  | 22 => ("PrettyShapesModel", "rowAt", "[I", true)
  | 23 => ("PrettyShapesModel", "columnAt", "[I", true)
  | 24 => ("PrettyShapesModel", "isSet", "[I", true)
  | 25 => ("PrettyShapesModel", "isThere", "[Z", true)
  | 26 => ("PrettyShapesModel", "forms", "[I", true)
  | 27 => ("PrettyShapesModel", "sizes", "[I", true)
  | 28 => ("PrettyShapesModel", "items", "[I", true)
  | 29 => ("PrettyShapesModel", "moved", "[I", true)
  | _ => ("PrettyShapesModel", "finding", "I", false)
def tyX7 : Nat → FieldType := fun k => match k with
  | 0 => .int
  | 1 => .array .int
  | 2 => .int
  | 3 => .int
  | 4 => .int
  | 5 => .int
  | 6 => .array .int
  | 7 => .array .int
  | 8 => .array .int
  | 9 => .array .int
  | 10 => .array .int
  | 11 => .array .int
  | 12 => .array .int
  | 13 => .array .int
  | 14 => .array .int
  | 15 => .int
  | 16 => .int
  | 17 => .int
  | 18 => .int
  | 19 => .boolean
  | 20 => .array .int
  | 21 => .array .int
  | 22 => .array .int
  | 23 => .array .int
  | 24 => .array .int
  | 25 => .array .boolean
  | 26 => .array .int
  | 27 => .array .int
  | 28 => .array .int
  | 29 => .array .int
  | _ => .int
abbrev wsX70 : List Cond := u_ws RX7 TX7 31
theorem nmX7 : ∀ a, a < 31 → ∀ b, b < 31 → a ≠ b → (TX7 a).2.1 ≠ (TX7 b).2.1 := by decide +kernel
theorem tyX7_ok : ∀ k, k < 31 → parseFieldDescriptor (TX7 k).2.2.1 = some (tyX7 k) := by decide +kernel
abbrev cX7_init : ByteArray := prog_9_method_1_code
def yX7_init : MethodName := ⟨RX7, "<init>", "()V"⟩
abbrev cX7_in : ByteArray := prog_9_method_3_code
def yX7_in : MethodName := ⟨RX7, "in", "(III)Z"⟩
abbrev cX7_isIn : ByteArray := prog_9_method_4_code
def yX7_isIn : MethodName := ⟨RX7, "isIn", "(II)Z"⟩
abbrev cX7_type : ByteArray := prog_9_method_5_code
def yX7_type : MethodName := ⟨RX7, "type", "(I)I"⟩
abbrev cX7_wipe : ByteArray := prog_9_method_6_code
def yX7_wipe : MethodName := ⟨RX7, "wipe", "()I"⟩
abbrev cX7_undo : ByteArray := prog_9_method_7_code
def yX7_undo : MethodName := ⟨RX7, "undo", "()I"⟩
abbrev cX7_width : ByteArray := prog_9_method_8_code
def yX7_width : MethodName := ⟨RX7, "width", "(I)I"⟩
abbrev cX7_read : ByteArray := prog_9_method_9_code
def yX7_read : MethodName := ⟨RX7, "read", "(I)I"⟩
abbrev cX7_kindOf : ByteArray := prog_9_method_10_code
def yX7_kindOf : MethodName := ⟨RX7, "kindOf", "(I)I"⟩
abbrev cX7_isTwofold : ByteArray := prog_9_method_11_code
def yX7_isTwofold : MethodName := ⟨RX7, "isTwofold", "(I)Z"⟩
abbrev cX7_readsText : ByteArray := prog_9_method_12_code
def yX7_readsText : MethodName := ⟨RX7, "readsText", "()I"⟩
abbrev cX7_reads : ByteArray := prog_9_method_13_code
def yX7_reads : MethodName := ⟨RX7, "reads", "()V"⟩
abbrev cX7_faultOf : ByteArray := prog_9_method_14_code
def yX7_faultOf : MethodName := ⟨RX7, "faultOf", "()I"⟩
abbrev cX7_fault : ByteArray := prog_9_method_15_code
def yX7_fault : MethodName := ⟨RX7, "fault", "()I"⟩
abbrev cX7_shape : ByteArray := prog_9_method_16_code
def yX7_shape : MethodName := ⟨RX7, "shape", "(IIII)I"⟩
abbrev cX7_lines : ByteArray := prog_9_method_17_code
def yX7_lines : MethodName := ⟨RX7, "lines", "(I)I"⟩
abbrev cX7_last : ByteArray := prog_9_method_18_code
def yX7_last : MethodName := ⟨RX7, "last", "(I)I"⟩
abbrev cX7_most : ByteArray := prog_9_method_19_code
def yX7_most : MethodName := ⟨RX7, "most", "(I)I"⟩
abbrev cX7_wayOf : ByteArray := prog_9_method_20_code
def yX7_wayOf : MethodName := ⟨RX7, "wayOf", "(I)I"⟩
abbrev cX7_max : ByteArray := prog_9_method_21_code
def yX7_max : MethodName := ⟨RX7, "max", "(II)I"⟩
abbrev cX7_both : ByteArray := prog_9_method_22_code
def yX7_both : MethodName := ⟨RX7, "both", "(III)I"⟩
abbrev cX7_pushed : ByteArray := prog_9_method_23_code
def yX7_pushed : MethodName := ⟨RX7, "pushed", "(II)I"⟩
abbrev cX7_isNoGreater : ByteArray := prog_9_method_24_code
def yX7_isNoGreater : MethodName := ⟨RX7, "isNoGreater", "(II)Z"⟩
abbrev cX7_tries : ByteArray := prog_9_method_25_code
def yX7_tries : MethodName := ⟨RX7, "tries", "(II)V"⟩
abbrev cX7_triesBoth : ByteArray := prog_9_method_26_code
def yX7_triesBoth : MethodName := ⟨RX7, "triesBoth", "(I)V"⟩
abbrev cX7_triesChoice : ByteArray := prog_9_method_27_code
def yX7_triesChoice : MethodName := ⟨RX7, "triesChoice", "(I)V"⟩
abbrev cX7_findsFronts : ByteArray := prog_9_method_28_code
def yX7_findsFronts : MethodName := ⟨RX7, "findsFronts", "(I)V"⟩
abbrev cX7_frontsTold : ByteArray := prog_9_method_29_code
def yX7_frontsTold : MethodName := ⟨RX7, "frontsTold", "()V"⟩
abbrev cX7_isPart : ByteArray := prog_9_method_30_code
def yX7_isPart : MethodName := ⟨RX7, "isPart", "(I)Z"⟩
abbrev cX7_manyOf : ByteArray := prog_9_method_31_code
def yX7_manyOf : MethodName := ⟨RX7, "manyOf", "(I)I"⟩
abbrev cX7_partOf : ByteArray := prog_9_method_32_code
def yX7_partOf : MethodName := ⟨RX7, "partOf", "(II)I"⟩
abbrev cX7_part : ByteArray := prog_9_method_33_code
def yX7_part : MethodName := ⟨RX7, "part", "(II)I"⟩
abbrev cX7_tellOf : ByteArray := prog_9_method_34_code
def yX7_tellOf : MethodName := ⟨RX7, "tellOf", "(II)I"⟩
abbrev cX7_frontierOf : ByteArray := prog_9_method_35_code
def yX7_frontierOf : MethodName := ⟨RX7, "frontierOf", "(III)I"⟩
abbrev cX7_frontier : ByteArray := prog_9_method_36_code
def yX7_frontier : MethodName := ⟨RX7, "frontier", "(III)I"⟩
abbrev cX7_triedOf : ByteArray := prog_9_method_37_code
def yX7_triedOf : MethodName := ⟨RX7, "triedOf", "(I)I"⟩
abbrev cX7_tried : ByteArray := prog_9_method_38_code
def yX7_tried : MethodName := ⟨RX7, "tried", "(I)I"⟩
abbrev cX7_isAhead : ByteArray := prog_9_method_39_code
def yX7_isAhead : MethodName := ⟨RX7, "isAhead", "(II)Z"⟩
abbrev cX7_findsBest : ByteArray := prog_9_method_40_code
def yX7_findsBest : MethodName := ⟨RX7, "findsBest", "()V"⟩
abbrev cX7_bestOf : ByteArray := prog_9_method_41_code
def yX7_bestOf : MethodName := ⟨RX7, "bestOf", "(I)I"⟩
abbrev cX7_best : ByteArray := prog_9_method_42_code
def yX7_best : MethodName := ⟨RX7, "best", "(I)I"⟩
abbrev cX7_shapeBy : ByteArray := prog_9_method_43_code
def yX7_shapeBy : MethodName := ⟨RX7, "shapeBy", "(II)I"⟩
abbrev cX7_shapeOf : ByteArray := prog_9_method_44_code
def yX7_shapeOf : MethodName := ⟨RX7, "shapeOf", "(I)I"⟩
abbrev cX7_findsWays : ByteArray := prog_9_method_45_code
def yX7_findsWays : MethodName := ⟨RX7, "findsWays", "()V"⟩
abbrev cX7_wayFor : ByteArray := prog_9_method_46_code
def yX7_wayFor : MethodName := ⟨RX7, "wayFor", "(II)I"⟩
abbrev cX7_way : ByteArray := prog_9_method_47_code
def yX7_way : MethodName := ⟨RX7, "way", "(II)I"⟩
abbrev cX7_sets : ByteArray := prog_9_method_48_code
def yX7_sets : MethodName := ⟨RX7, "sets", "()V"⟩
abbrev cX7_puts : ByteArray := prog_9_method_49_code
def yX7_puts : MethodName := ⟨RX7, "puts", "(III)V"⟩
abbrev cX7_setsBelow : ByteArray := prog_9_method_50_code
def yX7_setsBelow : MethodName := ⟨RX7, "setsBelow", "(I)V"⟩
abbrev cX7_columnsIn : ByteArray := prog_9_method_51_code
def yX7_columnsIn : MethodName := ⟨RX7, "columnsIn", "(I)I"⟩
abbrev cX7_byteIn : ByteArray := prog_9_method_52_code
def yX7_byteIn : MethodName := ⟨RX7, "byteIn", "(II)I"⟩
abbrev cX7_lineOf : ByteArray := prog_9_method_53_code
def yX7_lineOf : MethodName := ⟨RX7, "lineOf", "(II)I"⟩
abbrev cX7_line : ByteArray := prog_9_method_54_code
def yX7_line : MethodName := ⟨RX7, "line", "(II)I"⟩
abbrev cX7_isAllowed : ByteArray := prog_9_method_55_code
def yX7_isAllowed : MethodName := ⟨RX7, "isAllowed", "(II)Z"⟩
abbrev cX7_isAny : ByteArray := prog_9_method_56_code
def yX7_isAny : MethodName := ⟨RX7, "isAny", "(II)Z"⟩
abbrev cX7_hasteOf : ByteArray := prog_9_method_57_code
def yX7_hasteOf : MethodName := ⟨RX7, "hasteOf", "(I)I"⟩
abbrev cX7_haste : ByteArray := prog_9_method_58_code
def yX7_haste : MethodName := ⟨RX7, "haste", "(I)I"⟩
abbrev cX7_leastMost : ByteArray := prog_9_method_59_code
def yX7_leastMost : MethodName := ⟨RX7, "leastMost", "()I"⟩
abbrev cX7_enoughOf : ByteArray := prog_9_method_60_code
def yX7_enoughOf : MethodName := ⟨RX7, "enoughOf", "()I"⟩
abbrev cX7_enough : ByteArray := prog_9_method_61_code
def yX7_enough : MethodName := ⟨RX7, "enough", "()I"⟩
abbrev cX7_fewest : ByteArray := prog_9_method_62_code
def yX7_fewest : MethodName := ⟨RX7, "fewest", "(II)I"⟩
abbrev cX7_shrinksOf : ByteArray := prog_9_method_63_code
def yX7_shrinksOf : MethodName := ⟨RX7, "shrinksOf", "(I)I"⟩
abbrev cX7_shrinks : ByteArray := prog_9_method_64_code
def yX7_shrinks : MethodName := ⟨RX7, "shrinks", "(I)I"⟩
abbrev cX7_leastWithout : ByteArray := prog_9_method_65_code
def yX7_leastWithout : MethodName := ⟨RX7, "leastWithout", "(I)I"⟩
abbrev cX7_linesWithout : ByteArray := prog_9_method_66_code
def yX7_linesWithout : MethodName := ⟨RX7, "linesWithout", "(I)I"⟩
abbrev cX7_isOverBy : ByteArray := prog_9_method_67_code
def yX7_isOverBy : MethodName := ⟨RX7, "isOverBy", "(I)Z"⟩
abbrev cX7_spareOf : ByteArray := prog_9_method_68_code
def yX7_spareOf : MethodName := ⟨RX7, "spareOf", "()I"⟩
abbrev cX7_spare : ByteArray := prog_9_method_69_code
def yX7_spare : MethodName := ⟨RX7, "spare", "()I"⟩
abbrev cX7_meets : ByteArray := prog_9_method_70_code
def yX7_meets : MethodName := ⟨RX7, "meets", "(I)I"⟩
abbrev cX7_isSheet : ByteArray := prog_9_method_71_code
def yX7_isSheet : MethodName := ⟨RX7, "isSheet", "(I)Z"⟩
abbrev cX7_sheet : ByteArray := prog_9_method_72_code
def yX7_sheet : MethodName := ⟨RX7, "sheet", "(III)I"⟩
abbrev cX7_lose : ByteArray := prog_9_method_73_code
def yX7_lose : MethodName := ⟨RX7, "lose", "(I)I"⟩
abbrev cX7_lacks : ByteArray := prog_9_method_74_code
def yX7_lacks : MethodName := ⟨RX7, "lacks", "(III)I"⟩
abbrev cX7_keep : ByteArray := prog_9_method_75_code
def yX7_keep : MethodName := ⟨RX7, "keep", "(III)V"⟩
abbrev cX7_put : ByteArray := prog_9_method_76_code
def yX7_put : MethodName := ⟨RX7, "put", "(IIII)I"⟩
abbrev cX7_get : ByteArray := prog_9_method_77_code
def yX7_get : MethodName := ⟨RX7, "get", "(III)I"⟩
abbrev cX7_copy : ByteArray := prog_9_method_78_code
def yX7_copy : MethodName := ⟨RX7, "copy", "(IIIII)I"⟩
abbrev cX7_write : ByteArray := prog_9_method_79_code
def yX7_write : MethodName := ⟨RX7, "write", "(II)I"⟩
abbrev cX7_partsOf : ByteArray := prog_9_method_80_code
def yX7_partsOf : MethodName := ⟨RX7, "partsOf", "()I"⟩
abbrev cX7_choicesOf : ByteArray := prog_9_method_81_code
def yX7_choicesOf : MethodName := ⟨RX7, "choicesOf", "()I"⟩
abbrev cX7_wholeOf : ByteArray := prog_9_method_82_code
def yX7_wholeOf : MethodName := ⟨RX7, "wholeOf", "()I"⟩
abbrev cX7_count : ByteArray := prog_9_method_83_code
def yX7_count : MethodName := ⟨RX7, "count", "(I)I"⟩
abbrev cX7_partDigest : ByteArray := prog_9_method_84_code
def yX7_partDigest : MethodName := ⟨RX7, "partDigest", "(JI)J"⟩
abbrev cX7_digest : ByteArray := prog_9_method_85_code
def yX7_digest : MethodName := ⟨RX7, "digest", "()J"⟩
def RJ9 : String := "java/lang/Math"
def TJ9 : u_T := fun k => match k with
  | _ => ("", "", "", false)
def tyJ9 : Nat → FieldType := fun k => match k with
  | _ => .int
abbrev wsJ90 : List Cond := u_ws RJ9 TJ9 0
theorem nmJ9 : ∀ a, a < 0 → ∀ b, b < 0 → a ≠ b → (TJ9 a).2.1 ≠ (TJ9 b).2.1 := by decide +kernel
theorem tyJ9_ok : ∀ k, k < 0 → parseFieldDescriptor (TJ9 k).2.2.1 = some (tyJ9 k) := by decide +kernel
abbrev cJ9_max_7cf53 : ByteArray := prog_10_method_65_code
def yJ9_max_7cf53 : MethodName := ⟨RJ9, "max", "(II)I"⟩
abbrev cJ9_min_7cf53 : ByteArray := prog_10_method_69_code
def yJ9_min_7cf53 : MethodName := ⟨RJ9, "min", "(II)I"⟩
def RJ10 : String := "java/lang/System"
def TJ10 : u_T := fun k => match k with
  | _ => ("", "", "", false)
def tyJ10 : Nat → FieldType := fun k => match k with
  | _ => .int
abbrev wsJ100 : List Cond := u_ws RJ10 TJ10 0
theorem nmJ10 : ∀ a, a < 0 → ∀ b, b < 0 → a ≠ b → (TJ10 a).2.1 ≠ (TJ10 b).2.1 := by decide +kernel
theorem tyJ10_ok : ∀ k, k < 0 → parseFieldDescriptor (TJ10 k).2.2.1 = some (tyJ10 k) := by decide +kernel
def RL : String := "PrettyShapesLaw"
abbrev cL_law : ByteArray := code
def yL_law : MethodName := ⟨RL, "law", "([I)Z"⟩
abbrev vwCl : List vw_C := [(RX0, TX0, 13), (RX1, TX1, 4), (RX2, TX2, 6), (RX3, TX3, 4), (RX4, TX4, 3), (RX5, TX5, 7), (RX6, TX6, 10), (RX7, TX7, 31)]
end
section
/-! ===== the world of fixed places: values, states, layouts ===== -/
/-- the tables' words that stay true -/
def gtb : List Cond := lw_tbl.filter goodWord
abbrev AV : Type := Int ⊕ (Int ⊕ Option Nat)
abbrev vI (a : Int) : AV := .inl a
abbrev vL (a : Int) : AV := .inr (.inl a)
abbrev vR (q : Option Nat) : AV := .inr (.inr q)
abbrev SS : Type := Nat → Nat → Int
def up (σ : SS) (q k : Nat) (v : Int) : SS := fun q' k' => if q' = q ∧ k' = k then v else σ q' k'
def wr (a : Int) : Int := (Int32.ofInt a).toInt
def wl (a : Int) : Int := (Int64.ofInt a).toInt
def IR (a : Int) : Prop := -2147483648 ≤ a ∧ a ≤ 2147483647
def LR (a : Int) : Prop := -9223372036854775808 ≤ a ∧ a ≤ 9223372036854775807
/-- (places, kind of a place, its length, what its references mean): kind 0 a row of ints, 1 of booleans, 2 of references, 3 + c an object of the c-th of vwCl -/
abbrev Lay : Type := Nat × (Nat → Nat) × (Nat → Nat) × (Nat → Nat → Option Nat)
/-- the tables' numbers, the three rows' classes, the places' addresses -/
abbrev Gd : Type := va_G × (ClassId × ClassId × ClassId) × (Nat → Nat)
/-- (name, bytes, locals, answer, room) -/
abbrev MI : Type := MethodName × ByteArray × Nat × Option FieldType × Room
def cv (G : Gd) : AV → Value
  | .inl a => .int (Int32.ofInt a)
  | .inr (.inl a) => .long (Int64.ofInt a)
  | .inr (.inr none) => .null
  | .inr (.inr (some q)) => .ref (G.2.2 q)
def fdv (L : Lay) (G : Gd) (σ : SS) (q k : Nat) : Value := match L.2.2.2 q k with
  | some p => .ref (G.2.2 p)
  | none => .int (Int32.ofInt (σ q k))
def ce (L : Lay) (G : Gd) (σ : SS) (q : Nat) : va_E :=
  if L.2.1 q = 0 then .inl (G.2.1.1, L.2.2.1 q, .inl (fun i => Int32.ofInt (σ q i)))
  else if L.2.1 q = 1 then .inl (G.2.1.2.1, L.2.2.1 q, .inl (fun i => Int32.ofInt (σ q i)))
  else if L.2.1 q = 2 then .inl (G.2.1.2.2, L.2.2.1 q, .inr (.inr (.inr (.inr (fun i => (L.2.2.2 q i).map G.2.2)))))
  else .inr (L.2.1 q - 3, (List.range (L.2.2.1 q)).map (fdv L G σ q))
def wo (L : Lay) (G : Gd) (σ : SS) : va_W := (List.range L.1).map (fun q => (G.2.2 q, ce L G σ q))
def tys (G : Gd) : List (ClassId × FieldType) := [(G.2.1.1, .int), (G.2.1.2.1, .boolean), (G.2.1.2.2, .object "PrettyShapes$Sheet")]
def AA (L : Lay) (G : Gd) (sz : Nat) : Nat → Prop := va_A (wo L G (fun _ _ => 0)) sz
def okv : AV → Prop
  | .inl a => IR a
  | .inr (.inl a) => LR a
  | .inr (.inr _) => True
def OKS (ls : List (Option AV)) (st : List AV) (σ : SS) : Prop := (∀ v, some v ∈ ls → okv v) ∧ (∀ v ∈ st, okv v) ∧ ∀ q k, IR (σ q k)
def okr (r : Option AV × SS) : Prop := (∀ v, r.1 = some v → okv v) ∧ ∀ q k, IR (r.2 q k)
def wsM (M : MI) : List Cond := Cond.code M.1 M.2.1 M.2.2.1 M.2.2.2.1 :: gtb
def CX (M : MI) (p : Program) (s : State) (m : MethodId) (args : Array Value) (meth : Method) (c : Code) (G : Gd) : Prop :=
  p.tables.exec = Jvm.exec ∧ c.code = M.2.1 ∧ c.maxLocals = M.2.2.1 ∧ meth.sig.returnType = M.2.2.2.1 ∧ meth.locks = false ∧ s.vm.findClass M.1.cls = some m.cls ∧ (∀ w ∈ gtb, w.before args s = true) ∧ va_K G.1 vwCl (tys G) s
def WD (L : Lay) (G : Gd) (s : State) (σ : SS) (H : Heap) (locs : List Loc) : Prop := va_P G.1 vwCl (wo L G σ) H ∧ va_D (AA L G s.heap.size) (wo L G σ) ∧ va_S (AA L G s.heap.size) s.heap H locs
def PQ (L : Lay) (G : Gd) (r : Option AV × SS) (sz : Nat) : Array Value → State → Outcome → State → Prop := fun _ st oc t =>
  (oc = .returned (r.1.map (cv G)) ∧ okr r ∧ va_P G.1 vwCl (wo L G r.2) t.heap ∧ va_K G.1 vwCl (tys G) t) ∧ va_F (AA L G sz) st t
def LVs (G : Gd) (ls : List (Option AV)) : List (Nat × Value) := (List.range ls.length).filterMap (fun i => (ls.getD i none).map (fun v => (i, cv G v)))
def AW (L : Lay) (M : MI) (r : Option AV × SS) (pc : Nat) (ls : List (Option AV)) (st : List AV) (σ : SS) : Prop :=
  ∀ (p : Program) (l : Launch) (e : Env) (s : State) (m : MethodId) (args : Array Value) (below : List Frame) (meth : Method) (c : Code) (G : Gd) (H : Heap) (locs : List Loc) (lsA : Array Slot),
    CX M p s m args meth c G → WD L G s σ H locs → OKS ls st σ → lv_has lsA M.2.2.1 (LVs G ls) →
    W p l e M.2.2.2.2 s m args below meth c H locs 0 0 (MQ below (PQ L G r s.heap.size) args s 0 0 (AA L G s.heap.size)) (F0 m pc lsA (st.map (cv G)))
def CT (L : Lay) (M : MI) (vs : List AV) (σ : SS) (r : Option AV × SS) : Prop :=
  (∀ v ∈ vs, okv v) → (∀ q k, IR (σ q k)) → ∀ (l : Launch) (G : Gd) (sz : Nat), Met l M.1 (wsM M) M.2.2.2.2 (va_Pc (vs.map (cv G)) (fun U => U.heap.size = sz ∧ va_P G.1 vwCl (wo L G σ) U.heap ∧ va_K G.1 vwCl (tys G) U ∧ va_D (fun _ => True) (wo L G σ))) (PQ L G r sz) 0 0 (AA L G sz)
/-! ===== numbers ===== -/
theorem IR_32 (x : Int32) : IR x.toInt := by
  have h1 := x.toInt_lt
  have h2 := x.le_toInt
  constructor <;> omega
theorem LR_64 (x : Int64) : LR x.toInt := by
  have h1 := x.toInt_lt
  have h2 := x.le_toInt
  constructor <;> omega
theorem IR_wr (a : Int) : IR (wr a) := IR_32 _
theorem LR_wl (a : Int) : LR (wl a) := LR_64 _
theorem ti_of {a : Int} (h : IR a) : (Int32.ofInt a).toInt = a := Int32.toInt_ofInt_of_le (by have := h.1; omega) (by have := h.2; omega)
theorem tl_of {a : Int} (h : LR a) : (Int64.ofInt a).toInt = a := Int64.toInt_ofInt_of_le (by have := h.1; omega) (by have := h.2; omega)
theorem wr_of {a : Int} (h : IR a) : wr a = a := ti_of h
theorem of_wr (a : Int) : Int32.ofInt (wr a) = Int32.ofInt a := Int32.ofInt_toInt _
theorem of_wl (a : Int) : Int64.ofInt (wl a) = Int64.ofInt a := Int64.ofInt_toInt _
theorem oi_add (a b : Int) : Int32.ofInt a + Int32.ofInt b = Int32.ofInt (a + b) := by
  apply Int32.toInt_inj.mp
  simp
theorem oi_sub (a b : Int) : Int32.ofInt a - Int32.ofInt b = Int32.ofInt (a - b) := by
  apply Int32.toInt_inj.mp
  simp
theorem oi_mul (a b : Int) : Int32.ofInt a * Int32.ofInt b = Int32.ofInt (a * b) := by
  apply Int32.toInt_inj.mp
  simp
theorem ol_add (a b : Int) : Int64.ofInt a + Int64.ofInt b = Int64.ofInt (a + b) := by
  apply Int64.toInt_inj.mp
  simp
theorem ol_mul (a b : Int) : Int64.ofInt a * Int64.ofInt b = Int64.ofInt (a * b) := by
  apply Int64.toInt_inj.mp
  simp
theorem oi_lt {a b : Int} (ha : IR a) (hb : IR b) : Int32.ofInt a < Int32.ofInt b ↔ a < b := by
  rw [Int32.lt_iff_toInt_lt, ti_of ha, ti_of hb]
theorem oi_le {a b : Int} (ha : IR a) (hb : IR b) : Int32.ofInt a ≤ Int32.ofInt b ↔ a ≤ b := by
  rw [Int32.le_iff_toInt_le, ti_of ha, ti_of hb]
theorem oi_eq {a b : Int} (ha : IR a) (hb : IR b) : Int32.ofInt a = Int32.ofInt b ↔ a = b := by
  rw [← Int32.toInt_inj, ti_of ha, ti_of hb]
theorem IR_0 : IR 0 := ⟨by decide, by decide⟩
theorem oi_in {a : Int} {n : Nat} (ha : IR a) (h : 0 ≤ a ∧ a < n) : vp_in (Int32.ofInt a) n := vp_in_iff.mpr (by rw [ti_of ha]; exact h)
theorem oi_nat {a : Int} (ha : IR a) : (Int32.ofInt a).toNatClampNeg = a.toNat := by
  show (Int32.ofInt a).toInt.toNat = a.toNat
  rw [ti_of ha]
/-! ===== the world's cells ===== -/
section Worlds
variable {L : Lay} {G : Gd} {σ σ' : SS} {q k : Nat}
theorem wo_at (h : q < L.1) : (wo L G σ)[q]? = some (G.2.2 q, ce L G σ q) := by
  simp [wo, List.getElem?_map, List.getElem?_range h]
theorem wo_at' {e : va_E} (h : q < L.1) (he : ce L G σ q = e) : (wo L G σ)[q]? = some (G.2.2 q, e) := by
  rw [wo_at h, he]
theorem wo_get {x : Nat × va_E} (h : (wo L G σ)[q]? = some x) : q < L.1 ∧ x = (G.2.2 q, ce L G σ q) := by
  have hq : q < L.1 := by
    have := (List.getElem?_eq_some_iff.mp h).1
    simpa [wo] using this
  rw [wo_at hq] at h
  exact ⟨hq, (Option.some.inj h).symm⟩
theorem ce_off (h : ∀ i, σ' q i = σ q i) : ce L G σ' q = ce L G σ q := by
  have e : σ' q = σ q := funext h
  have e2 : fdv L G σ' q = fdv L G σ q := by
    funext i
    simp only [fdv, h]
  simp only [ce, e, e2]
theorem wo_set (hq : q < L.1) {e : va_E} (he : ce L G σ' q = e) (h : ∀ p, p ≠ q → ∀ i, σ' p i = σ p i) : (wo L G σ).set q (G.2.2 q, e) = wo L G σ' := by
  apply List.ext_getElem?
  intro i
  by_cases hi : i < L.1
  · by_cases hiq : i = q
    · subst hiq
      rw [List.getElem?_set_self (by simp [wo, hi]), wo_at hi, he]
    · rw [List.getElem?_set_ne (Ne.symm hiq), wo_at hi, wo_at hi, ce_off (h i hiq)]
  · have h1 : ((wo L G σ).set q (G.2.2 q, e)).length ≤ i := by simp [wo]; omega
    have h2 : (wo L G σ').length ≤ i := by simp [wo]; omega
    rw [List.getElem?_eq_none h1, List.getElem?_eq_none h2]
theorem up_off {v : Int} : ∀ p, p ≠ q → ∀ i, up σ q k v p i = σ p i := by
  intro p hp i
  simp [up, hp]
theorem up_row {v : Int} : ∀ i, up σ q k v q i = if i = k then v else σ q i := by
  intro i
  simp [up]
theorem va_A_wo (sz : Nat) : va_A (wo L G σ) sz = AA L G sz := by
  funext a
  apply propext
  constructor
  · rintro (⟨i, e, h⟩ | h)
    · obtain ⟨hi, he⟩ := wo_get h
      exact Or.inl ⟨i, ce L G (fun _ _ => 0) i, by rw [wo_at hi]; rw [Prod.mk.injEq] at he; rw [he.1]⟩
    · exact Or.inr h
  · rintro (⟨i, e, h⟩ | h)
    · obtain ⟨hi, he⟩ := wo_get h
      exact Or.inl ⟨i, ce L G σ i, by rw [wo_at hi]; rw [Prod.mk.injEq] at he; rw [he.1]⟩
    · exact Or.inr h
theorem va_D_wo {A : Nat → Prop} (h : va_D A (wo L G σ)) : va_D A (wo L G σ') := by
  refine ⟨fun i j x y hi hj hxy => ?_, fun i x hi => ?_⟩
  · obtain ⟨li, rfl⟩ := wo_get hi
    obtain ⟨lj, rfl⟩ := wo_get hj
    exact h.1 i j _ _ (wo_at li) (wo_at lj) hxy
  · obtain ⟨li, rfl⟩ := wo_get hi
    exact h.2 i (G.2.2 i, ce L G σ i) (wo_at li)
theorem IR_up {v : Int} (h : ∀ q k, IR (σ q k)) (hv : IR v) : ∀ q' k', IR (up σ q k v q' k') := by
  intro q' k'
  unfold up
  split
  · exact hv
  · exact h q' k'
end Worlds
/-! ===== locals ===== -/
section Locals
variable {G : Gd} {ls : List (Option AV)} {lsA : Array Slot} {n i : Nat} {v : AV}
theorem lv_less {l l' : List (Nat × Value)} (h : lv_has lsA n l) (hs : ∀ q ∈ l', q ∈ l) : lv_has lsA n l' := ⟨h.1, h.2.1, fun q hq => h.2.2 q (hs q hq)⟩
theorem LVs_mem {x : Nat × Value} : x ∈ LVs G ls ↔ ∃ w, ls[x.1]? = some (some w) ∧ x.2 = cv G w := by
  unfold LVs
  rw [List.mem_filterMap]
  constructor
  · rintro ⟨j, hj, h⟩
    rw [List.mem_range] at hj
    cases hw : ls.getD j none with
    | none => rw [hw] at h; cases h
    | some w =>
      rw [hw] at h
      obtain rfl := Option.some.inj h
      refine ⟨w, ?_, rfl⟩
      rw [List.getD_eq_getElem?_getD, List.getElem?_eq_getElem hj] at hw
      rw [List.getElem?_eq_getElem hj]
      exact congrArg some hw
  · rintro ⟨w, h, h2⟩
    have hlt : x.1 < ls.length := (List.getElem?_eq_some_iff.mp h).1
    refine ⟨x.1, List.mem_range.mpr hlt, ?_⟩
    rw [List.getD_eq_getElem?_getD, h]
    show some (x.1, cv G w) = some x
    rw [← h2]
theorem lv_load (h : lv_has lsA n (LVs G ls)) (hi : ls[i]? = some (some v)) : lsA[i]? = some (.val (cv G v)) := h.2.2 (i, cv G v) (LVs_mem.mpr ⟨v, hi, rfl⟩)
def isL : AV → Bool
  | .inr (.inl _) => true
  | _ => false
/-- the place below i holds no long -/
def nlo (ls : List (Option AV)) : Nat → Bool
  | 0 => true
  | j + 1 => match ls.getD j none with
    | some w => !isL w
    | none => true
theorem cat_cv : (cv G v).category = if isL v then 2 else 1 := by
  rcases v with a | a | _ | a <;> rfl
theorem nlo_sp {j : Nat} {w : AV} (h : nlo ls i = true) (hj : j + 1 = i) (hw : ls[j]? = some (some w)) : isL w = false := by
  subst hj
  have h1 : (match ls.getD j none with
    | some w => !isL w
    | none => true) = true := h
  rw [List.getD_eq_getElem?_getD, hw] at h1
  simpa using h1
theorem LVs_store1 (hn : nlo ls i = true) : ∀ x ∈ LVs G (ls.set i (some v)), x ∈ (i, cv G v) :: (LVs G ls).filter (fun q => !(q.1 == i) && !(q.1 + 1 == i && q.2.category == 2)) := by
  intro x hx
  obtain ⟨w, h1, h2⟩ := LVs_mem.mp hx
  by_cases hxi : x.1 = i
  · rw [hxi] at h1
    have hlt : i < ls.length := by
      have := (List.getElem?_eq_some_iff.mp h1).1
      simpa using this
    rw [List.getElem?_set_self hlt] at h1
    obtain rfl := Option.some.inj (Option.some.inj h1)
    refine List.mem_cons.mpr (Or.inl ?_)
    rw [← hxi, ← h2]
  · rw [List.getElem?_set_ne (Ne.symm hxi)] at h1
    refine List.mem_cons.mpr (Or.inr (List.mem_filter.mpr ⟨LVs_mem.mpr ⟨w, h1, h2⟩, ?_⟩))
    by_cases h3 : x.1 + 1 = i
    · have h4 := nlo_sp hn h3 h1
      simp [hxi, h2, cat_cv, h4]
    · simp [hxi, h3]
theorem LVs_store2 (hn : nlo ls i = true) : ∀ x ∈ LVs G ((ls.set i (some v)).set (i + 1) none), x ∈ (i, cv G v) :: (LVs G ls).filter (fun q => !(q.1 == i) && (!(q.1 == i + 1) && !(q.1 + 1 == i && q.2.category == 2))) := by
  intro x hx
  obtain ⟨w, h1, h2⟩ := LVs_mem.mp hx
  have hx1 : x.1 ≠ i + 1 := by
    intro h3
    rw [h3] at h1
    have hlt : i + 1 < (ls.set i (some v)).length := by
      have := (List.getElem?_eq_some_iff.mp h1).1
      simpa using this
    rw [List.getElem?_set_self hlt] at h1
    cases Option.some.inj h1
  rw [List.getElem?_set_ne (Ne.symm hx1)] at h1
  by_cases hxi : x.1 = i
  · rw [hxi] at h1
    have hlt : i < ls.length := by
      have := (List.getElem?_eq_some_iff.mp h1).1
      simpa using this
    rw [List.getElem?_set_self hlt] at h1
    obtain rfl := Option.some.inj (Option.some.inj h1)
    refine List.mem_cons.mpr (Or.inl ?_)
    rw [← hxi, ← h2]
  · rw [List.getElem?_set_ne (Ne.symm hxi)] at h1
    refine List.mem_cons.mpr (Or.inr (List.mem_filter.mpr ⟨LVs_mem.mpr ⟨w, h1, h2⟩, ?_⟩))
    by_cases h3 : x.1 + 1 = i
    · have h4 := nlo_sp hn h3 h1
      simp [hxi, hx1, h2, cat_cv, h4]
    · simp [hxi, hx1, h3]
theorem OKS_set {st st' : List AV} {σ : SS} (h : OKS ls st σ) (hv : okv v) (hs : ∀ w ∈ st', okv w) : OKS (ls.set i (some v)) st' σ := by
  refine ⟨fun w hw => ?_, hs, h.2.2⟩
  rcases List.mem_or_eq_of_mem_set hw with h1 | h1
  · exact h.1 w h1
  · obtain rfl := Option.some.inj h1
    exact hv
end Locals
end
section
/-! ===== the rules: an instruction each ===== -/
def i_and (a b : Int) : Int := (Int32.ofInt a &&& Int32.ofInt b).toInt
def i_or (a b : Int) : Int := (Int32.ofInt a ||| Int32.ofInt b).toInt
def i_shl (a b : Int) : Int := (Int32.ofInt a <<< (Int32.ofInt b &&& 31)).toInt
def i_shr (a b : Int) : Int := (Int32.ofInt a >>> (Int32.ofInt b &&& 31)).toInt
def i_b (a : Int) : Int := (Int32.ofInt a).toInt8.toInt32.toInt
def i_s (a : Int) : Int := (Int32.ofInt a).toInt16.toInt32.toInt
def l_cmp (a b : Int) : Int := if b < a then 1 else if a = b then 0 else -1
/-- a field of an object: the link of class 'own', the c-th class, its k-th field -/
def FK (own : String) (idx ci k : Nat) : Prop := ∃ (C : String) (T : u_T) (N : Nat) (ty : Nat → FieldType), vwCl[ci]? = some (C, T, N) ∧ k < N ∧ Cond.fieldLink own idx C (T k).2.1 (T k).2.2.1 ∈ gtb ∧ (∀ w ∈ u_ws C T N, w ∈ gtb) ∧ (T k).1 = C ∧ (∀ k, k < N → parseFieldDescriptor (T k).2.2.1 = some (ty k)) ∧ (∀ a, a < N → ∀ b, b < N → a ≠ b → (T a).2.1 ≠ (T b).2.1)
/-- it isn't final, and its type -/
def FT (ci k : Nat) (t : FieldType) : Prop := ∀ (C : String) (T : u_T) (N : Nat), vwCl[ci]? = some (C, T, N) → (T k).2.2.2 = false ∧ parseFieldDescriptor (T k).2.2.1 = some t
/-- an object of the c-th class at a place -/
def PL (L : Lay) (q ci : Nat) : Prop := q < L.1 ∧ L.2.1 q = 3 + ci ∧ ∀ (C : String) (T : u_T) (N : Nat), vwCl[ci]? = some (C, T, N) → L.2.2.1 q = N
def AR (L : Lay) (q t n : Nat) : Prop := q < L.1 ∧ L.2.1 q = t ∧ L.2.2.1 q = n
/-- what the tables say of a method -/
def MK (M : MI) (n : Nat) : Prop := Cond.code M.1 M.2.1 M.2.2.1 M.2.2.2.1 ∈ gtb ∧ Cond.initialized M.1.cls ∈ gtb ∧ (M.1.cls ≠ "java/lang/invoke/MethodHandle" ∧ M.1.cls ≠ "java/lang/invoke/VarHandle" ∧ (parseMethodDescriptor M.1.desc).map (fun d => d.parameters.length) = some n) ∧ M.2.2.2.2.cells = 0 ∧ M.2.2.2.2.slots = 0
def MV (M : MI) : Prop := Cond.instanceMethod M.1 ∈ gtb ∧ Cond.selects M.1.cls M.1 M.1 ∈ gtb
def RF (M2 M : MI) : Prop := M2.2.2.2.2.frames + 1 ≤ M.2.2.2.2.frames ∧ 8 + (M2.2.2.1 + 11) + M2.2.2.2.2.locals ≤ M.2.2.2.2.locals
theorem lw_good : ∀ w ∈ gtb, (w.onTables && w.keeps) = true ∨ ∃ ty, w = .arrayClass ty := fun w hw => good_of_word (List.mem_filter.mp hw).2
theorem gtb_in {w : Cond} (i : Nat) (h : lw_tbl[i]? = some w) (hg : goodWord w = true) : w ∈ gtb := List.mem_filter.mpr ⟨List.mem_of_getElem? h, hg⟩
theorem good_M {M : MI} {n : Nat} (h : MK M n) : GoodIn gtb (wsM M) := by
  intro w hw
  rcases List.mem_cons.mp hw with rfl | hw
  · exact ⟨h.1, lw_good _ h.1⟩
  · exact ⟨hw, lw_good _ hw⟩
section Rules
variable {L : Lay} {M : MI} {r : Option AV × SS} {pc : Nat} {ls : List (Option AV)} {st : List AV} {σ : SS}
theorem ok_push {v : AV} {st0 : List AV} (h : OKS ls st0 σ) (hs : ∀ w ∈ st, w ∈ st0) (hv : okv v) : OKS ls (v :: st) σ := ⟨h.1, fun w hw => by
  rcases List.mem_cons.mp hw with rfl | hw
  · exact hv
  · exact h.2.1 w (hs w hw), h.2.2⟩
theorem ok_drop {st0 : List AV} (h : OKS ls st0 σ) (hs : ∀ w ∈ st, w ∈ st0) : OKS ls st σ := ⟨h.1, fun w hw => h.2.1 w (hs w hw), h.2.2⟩
theorem ok_up {st0 : List AV} {q k : Nat} {v : Int} (h : OKS ls st0 σ) (hs : ∀ w ∈ st, w ∈ st0) (hv : IR v) : OKS ls st (up σ q k v) := ⟨h.1, fun w hw => h.2.1 w (hs w hw), IR_up h.2.2 hv⟩
theorem in_1 {x : AV} : ∀ w ∈ st, w ∈ x :: st := fun _ h => List.mem_cons_of_mem _ h
theorem in_2 {x y : AV} : ∀ w ∈ st, w ∈ x :: y :: st := fun _ h => List.mem_cons_of_mem _ (List.mem_cons_of_mem _ h)
theorem in_3 {x y z : AV} : ∀ w ∈ st, w ∈ x :: y :: z :: st := fun _ h => List.mem_cons_of_mem _ (List.mem_cons_of_mem _ (List.mem_cons_of_mem _ h))
theorem at_0 {x : AV} (h : OKS ls (x :: st) σ) : okv x := h.2.1 _ List.mem_cons_self
theorem at_1 {x y : AV} (h : OKS ls (x :: y :: st) σ) : okv y := h.2.1 _ (List.mem_cons_of_mem _ List.mem_cons_self)
theorem at_2 {x y z : AV} (h : OKS ls (x :: y :: z :: st) σ) : okv z := h.2.1 _ (List.mem_cons_of_mem _ (List.mem_cons_of_mem _ List.mem_cons_self))
-- constants
theorem aw_iconst {n : Int} (hd : decode M.2.1 pc = .ok (.iconst n, 1)) (hn : IR n) (k : AW L M r (pc + 1) ls (vI n :: st) σ) : AW L M r pc ls st σ := by
  intro p l e s m args below meth c G H locs lsA hX hW hO hl
  exact lv_iconst hX.1 hX.2.1 hd rfl (k p l e s m args below meth c G H locs lsA hX hW (ok_push hO (fun _ h => h) hn) hl)
theorem aw_bipush {n : Int} (hd : decode M.2.1 pc = .ok (.bipush n, 2)) (hn : IR n) (hv : (Int8.ofInt n).toInt32 = Int32.ofInt n) (k : AW L M r (pc + 2) ls (vI n :: st) σ) : AW L M r pc ls st σ := by
  intro p l e s m args below meth c G H locs lsA hX hW hO hl
  exact lv_bipush hX.1 hX.2.1 hd hv (k p l e s m args below meth c G H locs lsA hX hW (ok_push hO (fun _ h => h) hn) hl)
theorem aw_sipush {n : Int} (hd : decode M.2.1 pc = .ok (.sipush n, 3)) (hn : IR n) (hv : (Int16.ofInt n).toInt32 = Int32.ofInt n) (k : AW L M r (pc + 3) ls (vI n :: st) σ) : AW L M r pc ls st σ := by
  intro p l e s m args below meth c G H locs lsA hX hW hO hl
  exact lv_sipush hX.1 hX.2.1 hd hv (k p l e s m args below meth c G H locs lsA hX hW (ok_push hO (fun _ h => h) hn) hl)
theorem aw_ldc {n : Int} {v : Int32} {idx : Nat} (hd : decode M.2.1 pc = .ok (.ldc idx, 2)) (hw : Cond.constant M.1.cls idx v ∈ gtb) (hn : IR n) (hv : v = Int32.ofInt n) (k : AW L M r (pc + 2) ls (vI n :: st) σ) : AW L M r pc ls st σ := by
  intro p l e s m args below meth c G H locs lsA hX hW hO hl
  subst hv
  exact lv_ldc hX.1 hX.2.1 hX.2.2.2.2.2.1 (hX.2.2.2.2.2.2.1 _ hw) hd (k p l e s m args below meth c G H locs lsA hX hW (ok_push hO (fun _ h => h) hn) hl)
theorem aw_ldcw {n : Int} {v : Int32} {idx : Nat} (hd : decode M.2.1 pc = .ok (.ldc_w idx, 3)) (hw : Cond.constant M.1.cls idx v ∈ gtb) (hn : IR n) (hv : v = Int32.ofInt n) (k : AW L M r (pc + 3) ls (vI n :: st) σ) : AW L M r pc ls st σ := by
  intro p l e s m args below meth c G H locs lsA hX hW hO hl
  subst hv
  exact lv_ldcw hX.1 hX.2.1 hX.2.2.2.2.2.1 (hX.2.2.2.2.2.2.1 _ hw) hd (k p l e s m args below meth c G H locs lsA hX hW (ok_push hO (fun _ h => h) hn) hl)
theorem aw_ldc2 {n : Int} {v : Int64} {idx : Nat} (hd : decode M.2.1 pc = .ok (.ldc2_w idx, 3)) (hw : Cond.constantLong M.1.cls idx v ∈ gtb) (hn : LR n) (hv : v = Int64.ofInt n) (k : AW L M r (pc + 3) ls (vL n :: st) σ) : AW L M r pc ls st σ := by
  intro p l e s m args below meth c G H locs lsA hX hW hO hl
  subst hv
  exact lv_ldc2 hX.1 hX.2.1 hX.2.2.2.2.2.1 (hX.2.2.2.2.2.2.1 _ hw) hd (k p l e s m args below meth c G H locs lsA hX hW (ok_push (v := vL n) hO (fun _ h => h) hn) hl)
theorem aw_null (hd : decode M.2.1 pc = .ok (.aconst_null, 1)) (k : AW L M r (pc + 1) ls (vR none :: st) σ) : AW L M r pc ls st σ := by
  intro p l e s m args below meth c G H locs lsA hX hW hO hl
  exact lv_null hX.1 hX.2.1 hd (k p l e s m args below meth c G H locs lsA hX hW (ok_push (v := vR none) hO (fun _ h => h) trivial) hl)
-- locals
theorem ok_ls {i : Nat} {v : AV} (h : OKS ls st σ) (hl : ls[i]? = some (some v)) : okv v := h.1 v (List.mem_of_getElem? hl)
theorem aw_iload_n {j : Fin 4} {i : Nat} {a : Int} (hd : decode M.2.1 pc = .ok (.iload_n j, 1)) (hi : (j : Nat) = i) (hl : ls[i]? = some (some (vI a))) (k : AW L M r (pc + 1) ls (vI a :: st) σ) : AW L M r pc ls st σ := by
  intro p l e s m args below meth c G H locs lsA hX hW hO hv
  exact lv_iload_n hX.1 hX.2.1 hd hi (lv_load hv hl) (k p l e s m args below meth c G H locs lsA hX hW (ok_push hO (fun _ h => h) (ok_ls hO hl)) hv)
theorem aw_iload {i : Nat} {a : Int} (hd : decode M.2.1 pc = .ok (.iload i, 2)) (hl : ls[i]? = some (some (vI a))) (k : AW L M r (pc + 2) ls (vI a :: st) σ) : AW L M r pc ls st σ := by
  intro p l e s m args below meth c G H locs lsA hX hW hO hv
  exact lv_iload hX.1 hX.2.1 hd (lv_load hv hl) (k p l e s m args below meth c G H locs lsA hX hW (ok_push hO (fun _ h => h) (ok_ls hO hl)) hv)
theorem aw_lload_n {j : Fin 4} {i : Nat} {a : Int} (hd : decode M.2.1 pc = .ok (.lload_n j, 1)) (hi : (j : Nat) = i) (hl : ls[i]? = some (some (vL a))) (k : AW L M r (pc + 1) ls (vL a :: st) σ) : AW L M r pc ls st σ := by
  intro p l e s m args below meth c G H locs lsA hX hW hO hv
  exact lv_lload_n hX.1 hX.2.1 hd hi (lv_load hv hl) (k p l e s m args below meth c G H locs lsA hX hW (ok_push hO (fun _ h => h) (ok_ls hO hl)) hv)
theorem aw_lload {i : Nat} {a : Int} (hd : decode M.2.1 pc = .ok (.lload i, 2)) (hl : ls[i]? = some (some (vL a))) (k : AW L M r (pc + 2) ls (vL a :: st) σ) : AW L M r pc ls st σ := by
  intro p l e s m args below meth c G H locs lsA hX hW hO hv
  exact lv_lload hX.1 hX.2.1 hd (lv_load hv hl) (k p l e s m args below meth c G H locs lsA hX hW (ok_push hO (fun _ h => h) (ok_ls hO hl)) hv)
theorem aw_aload_n {j : Fin 4} {i : Nat} {a : Option Nat} (hd : decode M.2.1 pc = .ok (.aload_n j, 1)) (hi : (j : Nat) = i) (hl : ls[i]? = some (some (vR a))) (k : AW L M r (pc + 1) ls (vR a :: st) σ) : AW L M r pc ls st σ := by
  intro p l e s m args below meth c G H locs lsA hX hW hO hv
  have K := k p l e s m args below meth c G H locs lsA hX hW (ok_push hO (fun _ h => h) (ok_ls hO hl)) hv
  cases a with
  | none => exact lv_aload_nN hX.1 hX.2.1 hd hi (lv_load hv hl) K
  | some q => exact lv_aload_n hX.1 hX.2.1 hd hi (lv_load hv hl) K
theorem aw_aload {i : Nat} {a : Option Nat} (hd : decode M.2.1 pc = .ok (.aload i, 2)) (hl : ls[i]? = some (some (vR a))) (k : AW L M r (pc + 2) ls (vR a :: st) σ) : AW L M r pc ls st σ := by
  intro p l e s m args below meth c G H locs lsA hX hW hO hv
  have K := k p l e s m args below meth c G H locs lsA hX hW (ok_push hO (fun _ h => h) (ok_ls hO hl)) hv
  cases a with
  | none => exact lv_aloadN hX.1 hX.2.1 hd (lv_load hv hl) K
  | some q => exact lv_aload hX.1 hX.2.1 hd (lv_load hv hl) K
theorem aw_istore_n {j : Fin 4} {i : Nat} {a : Int} (hd : decode M.2.1 pc = .ok (.istore_n j, 1)) (hi : (j : Nat) = i) (hn : i < M.2.2.1) (hb : nlo ls i = true) (k : ∀ x, x = a → AW L M r (pc + 1) (ls.set i (some (vI x))) st σ) : AW L M r pc ls (vI a :: st) σ := by
  intro p l e s m args below meth c G H locs lsA hX hW hO hv
  exact lv_istore_n hX.1 hX.2.1 hd hi hv hn rfl (fun ls' hl' => k a rfl p l e s m args below meth c G H locs ls' hX hW (OKS_set hO (at_0 hO) (fun w hw => hO.2.1 w (in_1 w hw))) (lv_less hl' (LVs_store1 (v := vI a) hb)))
theorem aw_istore {i : Nat} {a : Int} (hd : decode M.2.1 pc = .ok (.istore i, 2)) (hn : i < M.2.2.1) (hb : nlo ls i = true) (k : ∀ x, x = a → AW L M r (pc + 2) (ls.set i (some (vI x))) st σ) : AW L M r pc ls (vI a :: st) σ := by
  intro p l e s m args below meth c G H locs lsA hX hW hO hv
  exact lv_istore hX.1 hX.2.1 hd hv hn rfl (fun ls' hl' => k a rfl p l e s m args below meth c G H locs ls' hX hW (OKS_set hO (at_0 hO) (fun w hw => hO.2.1 w (in_1 w hw))) (lv_less hl' (LVs_store1 (v := vI a) hb)))
theorem OKS_set2 {st' : List AV} {i : Nat} {v : AV} (h : OKS ls st σ) (hv : okv v) (hs : ∀ w ∈ st', okv w) : OKS ((ls.set i (some v)).set (i + 1) none) st' σ := by
  refine ⟨fun w hw => ?_, hs, h.2.2⟩
  rcases List.mem_or_eq_of_mem_set hw with h1 | h1
  · rcases List.mem_or_eq_of_mem_set h1 with h1 | h1
    · exact h.1 w h1
    · obtain rfl := Option.some.inj h1
      exact hv
  · cases h1
theorem aw_lstore_n {j : Fin 4} {i : Nat} {a : Int} (hd : decode M.2.1 pc = .ok (.lstore_n j, 1)) (hi : (j : Nat) = i) (hn : i + 1 < M.2.2.1) (hb : nlo ls i = true) (k : ∀ x, x = a → AW L M r (pc + 1) ((ls.set i (some (vL x))).set (i + 1) none) st σ) : AW L M r pc ls (vL a :: st) σ := by
  intro p l e s m args below meth c G H locs lsA hX hW hO hv
  exact lv_lstore_n hX.1 hX.2.1 hd hi hv hn rfl (fun ls' hl' => k a rfl p l e s m args below meth c G H locs ls' hX hW (OKS_set2 hO (at_0 hO) (fun w hw => hO.2.1 w (in_1 w hw))) (lv_less hl' (LVs_store2 (v := vL a) hb)))
theorem aw_lstore {i : Nat} {a : Int} (hd : decode M.2.1 pc = .ok (.lstore i, 2)) (hn : i + 1 < M.2.2.1) (hb : nlo ls i = true) (k : ∀ x, x = a → AW L M r (pc + 2) ((ls.set i (some (vL x))).set (i + 1) none) st σ) : AW L M r pc ls (vL a :: st) σ := by
  intro p l e s m args below meth c G H locs lsA hX hW hO hv
  exact lv_lstore hX.1 hX.2.1 hd hv hn rfl (fun ls' hl' => k a rfl p l e s m args below meth c G H locs ls' hX hW (OKS_set2 hO (at_0 hO) (fun w hw => hO.2.1 w (in_1 w hw))) (lv_less hl' (LVs_store2 (v := vL a) hb)))
theorem aw_astore_n {j : Fin 4} {i : Nat} {a : Option Nat} (hd : decode M.2.1 pc = .ok (.astore_n j, 1)) (hi : (j : Nat) = i) (hn : i < M.2.2.1) (hb : nlo ls i = true) (k : AW L M r (pc + 1) (ls.set i (some (vR a))) st σ) : AW L M r pc ls (vR a :: st) σ := by
  intro p l e s m args below meth c G H locs lsA hX hW hO hv
  cases a with
  | none => exact lv_astore_nN hX.1 hX.2.1 hd hi hv hn rfl (fun ls' hl' => k p l e s m args below meth c G H locs ls' hX hW (OKS_set hO (at_0 hO) (fun w hw => hO.2.1 w (in_1 w hw))) (lv_less hl' (LVs_store1 (v := vR none) hb)))
  | some q => exact lv_astore_n hX.1 hX.2.1 hd hi hv hn rfl (fun ls' hl' => k p l e s m args below meth c G H locs ls' hX hW (OKS_set hO (at_0 hO) (fun w hw => hO.2.1 w (in_1 w hw))) (lv_less hl' (LVs_store1 (v := vR (some q)) hb)))
theorem aw_astore {i : Nat} {a : Option Nat} (hd : decode M.2.1 pc = .ok (.astore i, 2)) (hn : i < M.2.2.1) (hb : nlo ls i = true) (k : AW L M r (pc + 2) (ls.set i (some (vR a))) st σ) : AW L M r pc ls (vR a :: st) σ := by
  intro p l e s m args below meth c G H locs lsA hX hW hO hv
  cases a with
  | none => exact lv_astoreN hX.1 hX.2.1 hd hv hn rfl (fun ls' hl' => k p l e s m args below meth c G H locs ls' hX hW (OKS_set hO (at_0 hO) (fun w hw => hO.2.1 w (in_1 w hw))) (lv_less hl' (LVs_store1 (v := vR none) hb)))
  | some q => exact lv_astore hX.1 hX.2.1 hd hv hn rfl (fun ls' hl' => k p l e s m args below meth c G H locs ls' hX hW (OKS_set hO (at_0 hO) (fun w hw => hO.2.1 w (in_1 w hw))) (lv_less hl' (LVs_store1 (v := vR (some q)) hb)))
theorem aw_iinc {i : Nat} {n a : Int} (hd : decode M.2.1 pc = .ok (.iinc i n, 3)) (hl : ls[i]? = some (some (vI a))) (hn : i < M.2.2.1) (hb : nlo ls i = true) (k : ∀ x, x = wr (a + n) → AW L M r (pc + 3) (ls.set i (some (vI x))) st σ) : AW L M r pc ls st σ := by
  intro p l e s m args below meth c G H locs lsA hX hW hO hv
  obtain ⟨j, hj⟩ := List.getElem?_of_mem (LVs_mem (G := G) (x := (i, cv G (vI a))).mpr ⟨vI a, hl, rfl⟩)
  refine lv_iinc (v := Int32.ofInt (wr (a + n))) hX.1 hX.2.1 hd hv hj ?_ hn rfl (fun ls' hl' => k _ rfl p l e s m args below meth c G H locs ls' hX hW (OKS_set hO (IR_wr _) hO.2.1) (lv_less hl' (LVs_store1 (v := vI (wr (a + n))) hb)))
  rw [of_wr, oi_add]
/-- what is no longer wanted of the locals -/
def lsle : List (Option AV) → List (Option AV) → Prop
  | [], _ => True
  | none :: a, _ :: b => lsle a b
  | some v :: a, w :: b => w = some v ∧ lsle a b
  | none :: a, [] => lsle a []
  | some _ :: _, [] => False
theorem lsle_sp : ∀ {a b : List (Option AV)}, lsle a b → ∀ (i : Nat) (v : AV), a[i]? = some (some v) → b[i]? = some (some v)
  | [], _, _, i, v, h => by simp at h
  | none :: a, [], hl, 0, v, h => by simp at h
  | none :: a, [], hl, i + 1, v, h => by
      have := lsle_sp (a := a) (b := []) hl i v (by simpa using h)
      simp at this
  | none :: a, w :: b, hl, 0, v, h => by simp at h
  | none :: a, w :: b, hl, i + 1, v, h => by
      have := lsle_sp (a := a) (b := b) hl i v (by simpa using h)
      simpa using this
  | some u :: a, [], hl, i, v, h => by cases hl
  | some u :: a, w :: b, hl, 0, v, h => by
      obtain ⟨rfl, _⟩ := hl
      simpa using h
  | some u :: a, w :: b, hl, i + 1, v, h => by
      have := lsle_sp (a := a) (b := b) hl.2 i v (by simpa using h)
      simpa using this
theorem aw_less {ls' : List (Option AV)} (h : lsle ls' ls) (k : AW L M r pc ls' st σ) : AW L M r pc ls st σ := by
  intro p l e s m args below meth c G H locs lsA hX hW hO hv
  refine k p l e s m args below meth c G H locs lsA hX hW ⟨fun v hv' => ?_, hO.2.1, hO.2.2⟩ (lv_less hv (fun x hx => ?_))
  · obtain ⟨i, hi⟩ := List.getElem?_of_mem hv'
    exact hO.1 v (List.mem_of_getElem? (lsle_sp h i v hi))
  · obtain ⟨w, h1, h2⟩ := LVs_mem.mp hx
    exact LVs_mem.mpr ⟨w, lsle_sp h x.1 w h1, h2⟩
-- arithmetic
theorem aw_iadd {a b : Int} (hd : decode M.2.1 pc = .ok (.iadd, 1)) (k : AW L M r (pc + 1) ls (vI (wr (a + b)) :: st) σ) : AW L M r pc ls (vI b :: vI a :: st) σ := by
  intro p l e s m args below meth c G H locs lsA hX hW hO hv
  have K := k p l e s m args below meth c G H locs lsA hX hW (ok_push hO in_2 (IR_wr _)) hv
  simp only [List.map_cons, cv, of_wr, ← oi_add] at K
  exact lv_iadd hX.1 hX.2.1 hd K
theorem aw_isub {a b : Int} (hd : decode M.2.1 pc = .ok (.isub, 1)) (k : AW L M r (pc + 1) ls (vI (wr (a - b)) :: st) σ) : AW L M r pc ls (vI b :: vI a :: st) σ := by
  intro p l e s m args below meth c G H locs lsA hX hW hO hv
  have K := k p l e s m args below meth c G H locs lsA hX hW (ok_push hO in_2 (IR_wr _)) hv
  simp only [List.map_cons, cv, of_wr, ← oi_sub] at K
  exact lv_isub hX.1 hX.2.1 hd K
theorem aw_imul {a b : Int} (hd : decode M.2.1 pc = .ok (.imul, 1)) (k : AW L M r (pc + 1) ls (vI (wr (a * b)) :: st) σ) : AW L M r pc ls (vI b :: vI a :: st) σ := by
  intro p l e s m args below meth c G H locs lsA hX hW hO hv
  have K := k p l e s m args below meth c G H locs lsA hX hW (ok_push hO in_2 (IR_wr _)) hv
  simp only [List.map_cons, cv, of_wr, ← oi_mul] at K
  exact lv_imul hX.1 hX.2.1 hd K
theorem aw_iand {a b : Int} (hd : decode M.2.1 pc = .ok (.iand, 1)) (k : AW L M r (pc + 1) ls (vI (i_and a b) :: st) σ) : AW L M r pc ls (vI b :: vI a :: st) σ := by
  intro p l e s m args below meth c G H locs lsA hX hW hO hv
  have K := k p l e s m args below meth c G H locs lsA hX hW (ok_push hO in_2 (IR_32 _)) hv
  simp only [List.map_cons, cv, i_and, Int32.ofInt_toInt] at K
  exact lv_iand hX.1 hX.2.1 hd K
theorem aw_ior {a b : Int} (hd : decode M.2.1 pc = .ok (.ior, 1)) (k : AW L M r (pc + 1) ls (vI (i_or a b) :: st) σ) : AW L M r pc ls (vI b :: vI a :: st) σ := by
  intro p l e s m args below meth c G H locs lsA hX hW hO hv
  have K := k p l e s m args below meth c G H locs lsA hX hW (ok_push hO in_2 (IR_32 _)) hv
  simp only [List.map_cons, cv, i_or, Int32.ofInt_toInt] at K
  exact lv_ior hX.1 hX.2.1 hd K
theorem aw_ishl {a b : Int} (hd : decode M.2.1 pc = .ok (.ishl, 1)) (k : AW L M r (pc + 1) ls (vI (i_shl a b) :: st) σ) : AW L M r pc ls (vI b :: vI a :: st) σ := by
  intro p l e s m args below meth c G H locs lsA hX hW hO hv
  have K := k p l e s m args below meth c G H locs lsA hX hW (ok_push hO in_2 (IR_32 _)) hv
  simp only [List.map_cons, cv, i_shl, Int32.ofInt_toInt] at K
  exact lv_ishl hX.1 hX.2.1 hd K
theorem aw_ishr {a b : Int} (hd : decode M.2.1 pc = .ok (.ishr, 1)) (k : AW L M r (pc + 1) ls (vI (i_shr a b) :: st) σ) : AW L M r pc ls (vI b :: vI a :: st) σ := by
  intro p l e s m args below meth c G H locs lsA hX hW hO hv
  have K := k p l e s m args below meth c G H locs lsA hX hW (ok_push hO in_2 (IR_32 _)) hv
  simp only [List.map_cons, cv, i_shr, Int32.ofInt_toInt] at K
  exact lv_ishr hX.1 hX.2.1 hd K
theorem aw_i2b {a : Int} (hd : decode M.2.1 pc = .ok (.i2b, 1)) (k : AW L M r (pc + 1) ls (vI (i_b a) :: st) σ) : AW L M r pc ls (vI a :: st) σ := by
  intro p l e s m args below meth c G H locs lsA hX hW hO hv
  have K := k p l e s m args below meth c G H locs lsA hX hW (ok_push hO in_1 (IR_32 _)) hv
  simp only [List.map_cons, cv, i_b, Int32.ofInt_toInt] at K
  exact lv_i2b hX.1 hX.2.1 hd rfl K
theorem aw_i2s {a : Int} (hd : decode M.2.1 pc = .ok (.i2s, 1)) (k : AW L M r (pc + 1) ls (vI (i_s a) :: st) σ) : AW L M r pc ls (vI a :: st) σ := by
  intro p l e s m args below meth c G H locs lsA hX hW hO hv
  have K := k p l e s m args below meth c G H locs lsA hX hW (ok_push hO in_1 (IR_32 _)) hv
  simp only [List.map_cons, cv, i_s, Int32.ofInt_toInt] at K
  exact lv_i2s hX.1 hX.2.1 hd rfl K
theorem aw_i2l {a : Int} (hd : decode M.2.1 pc = .ok (.i2l, 1)) (k : AW L M r (pc + 1) ls (vL a :: st) σ) : AW L M r pc ls (vI a :: st) σ := by
  intro p l e s m args below meth c G H locs lsA hX hW hO hv
  have ha : IR a := at_0 hO
  have ha2 : LR a := ⟨by have := ha.1; omega, by have := ha.2; omega⟩
  have K := k p l e s m args below meth c G H locs lsA hX hW (ok_push (v := vL a) hO in_1 ha2) hv
  refine lv_i2l hX.1 hX.2.1 hd ?_ K
  apply Int64.toInt_inj.mp
  rw [Int32.toInt_toInt64, ti_of ha, tl_of ha2]
theorem aw_ladd {a b : Int} (hd : decode M.2.1 pc = .ok (.ladd, 1)) (k : AW L M r (pc + 1) ls (vL (wl (a + b)) :: st) σ) : AW L M r pc ls (vL b :: vL a :: st) σ := by
  intro p l e s m args below meth c G H locs lsA hX hW hO hv
  have K := k p l e s m args below meth c G H locs lsA hX hW (ok_push (v := vL (wl (a + b))) hO in_2 (LR_wl _)) hv
  simp only [List.map_cons, cv, of_wl, ← ol_add] at K
  exact lv_ladd hX.1 hX.2.1 hd K
theorem aw_lmul {a b : Int} (hd : decode M.2.1 pc = .ok (.lmul, 1)) (k : AW L M r (pc + 1) ls (vL (wl (a * b)) :: st) σ) : AW L M r pc ls (vL b :: vL a :: st) σ := by
  intro p l e s m args below meth c G H locs lsA hX hW hO hv
  have K := k p l e s m args below meth c G H locs lsA hX hW (ok_push (v := vL (wl (a * b))) hO in_2 (LR_wl _)) hv
  simp only [List.map_cons, cv, of_wl, ← ol_mul] at K
  exact lv_lmul hX.1 hX.2.1 hd K
theorem aw_lcmp {a b : Int} (hd : decode M.2.1 pc = .ok (.lcmp, 1)) (k : AW L M r (pc + 1) ls (vI (l_cmp a b) :: st) σ) : AW L M r pc ls (vL b :: vL a :: st) σ := by
  intro p l e s m args below meth c G H locs lsA hX hW hO hv
  have ha : LR a := at_1 hO
  have hb : LR b := at_0 hO
  have K := k p l e s m args below meth c G H locs lsA hX hW (ok_push hO in_2 (by show IR (l_cmp a b); unfold l_cmp IR; split <;> (try split) <;> decide)) hv
  have e1 : Int32.ofInt (l_cmp a b) = lg_cmp (Int64.ofInt a) (Int64.ofInt b) := by
    unfold l_cmp lg_cmp
    have h1 : Int64.ofInt b < Int64.ofInt a ↔ b < a := by rw [Int64.lt_iff_toInt_lt, tl_of ha, tl_of hb]
    have h2 : Int64.ofInt a = Int64.ofInt b ↔ a = b := by rw [← Int64.toInt_inj, tl_of ha, tl_of hb]
    simp only [h1, h2]
    split
    · rfl
    · split <;> rfl
  simp only [List.map_cons, cv, e1] at K
  exact W.lcmp hX.1 hX.2.1 hd K
-- the stack
theorem aw_dup {v : AV} (hd : decode M.2.1 pc = .ok (.dup, 1)) (hv : isL v = false) (k : AW L M r (pc + 1) ls (v :: v :: st) σ) : AW L M r pc ls (v :: st) σ := by
  intro p l e s m args below meth c G H locs lsA hX hW hO hl
  exact lv_dup hX.1 hX.2.1 hd (by rw [cat_cv, hv]; rfl) (k p l e s m args below meth c G H locs lsA hX hW (ok_push hO (fun _ h => h) (at_0 hO)) hl)
theorem aw_pop {v : AV} (hd : decode M.2.1 pc = .ok (.pop, 1)) (hv : isL v = false) (k : AW L M r (pc + 1) ls st σ) : AW L M r pc ls (v :: st) σ := by
  intro p l e s m args below meth c G H locs lsA hX hW hO hl
  exact lv_pop hX.1 hX.2.1 hd (by rw [cat_cv, hv]; rfl) (k p l e s m args below meth c G H locs lsA hX hW (ok_drop hO in_1) hl)
theorem aw_dup2 {v w : AV} (hd : decode M.2.1 pc = .ok (.dup2, 1)) (hv : isL v = false) (hw : isL w = false) (k : AW L M r (pc + 1) ls (v :: w :: v :: w :: st) σ) : AW L M r pc ls (v :: w :: st) σ := by
  intro p l e s m args below meth c G H locs lsA hX hW hO hl
  exact lv_dup2_11 hX.1 hX.2.1 hd (by rw [cat_cv, hv]; rfl) (by rw [cat_cv, hw]; rfl) (k p l e s m args below meth c G H locs lsA hX hW (ok_push (ok_push hO (fun _ h => h) (at_1 hO)) (fun _ h => h) (at_0 hO)) hl)
end Rules
end
section
/-! ===== the rules: branches, fields, rows, calls, ends ===== -/
section Rules2
variable {L : Lay} {M : MI} {r : Option AV × SS} {pc : Nat} {ls : List (Option AV)} {st : List AV} {σ : SS}
theorem aw_icmp_eq {a b off : Int} {tgt : Nat} (hd : decode M.2.1 pc = .ok (.if_icmp .eq off, 3)) (ht : (pc : Int) + off = (tgt : Int)) (kt : a = b → AW L M r tgt ls st σ) (kf : ¬ a = b → AW L M r (pc + 3) ls st σ) : AW L M r pc ls (vI b :: vI a :: st) σ := by
  intro p l e s m args below meth c G H locs lsA hX hW hO hv
  have ha : IR a := at_1 hO
  have hb : IR b := at_0 hO
  have kt' := fun h => kt h p l e s m args below meth c G H locs lsA hX hW (ok_drop hO in_2) hv
  have kf' := fun h => kf h p l e s m args below meth c G H locs lsA hX hW (ok_drop hO in_2) hv
  exact lv_icmp_eq hX.1 hX.2.1 hd ht (fun h => kt' ((oi_eq ha hb).mp h)) (fun h => kf' (fun q => h ((oi_eq ha hb).mpr q)))
theorem aw_if_eq {a off : Int} {tgt : Nat} (hd : decode M.2.1 pc = .ok (.ifCond .eq off, 3)) (ht : (pc : Int) + off = (tgt : Int)) (kt : a = 0 → AW L M r tgt ls st σ) (kf : ¬ a = 0 → AW L M r (pc + 3) ls st σ) : AW L M r pc ls (vI a :: st) σ := by
  intro p l e s m args below meth c G H locs lsA hX hW hO hv
  have ha : IR a := at_0 hO
  have hb : IR 0 := IR_0
  have kt' := fun h => kt h p l e s m args below meth c G H locs lsA hX hW (ok_drop hO in_1) hv
  have kf' := fun h => kf h p l e s m args below meth c G H locs lsA hX hW (ok_drop hO in_1) hv
  exact lv_if_eq hX.1 hX.2.1 hd ht (fun h => kt' ((oi_eq ha hb).mp h)) (fun h => kf' (fun q => h ((oi_eq ha hb).mpr q)))
theorem aw_icmp_ne {a b off : Int} {tgt : Nat} (hd : decode M.2.1 pc = .ok (.if_icmp .ne off, 3)) (ht : (pc : Int) + off = (tgt : Int)) (kt : ¬ a = b → AW L M r tgt ls st σ) (kf : a = b → AW L M r (pc + 3) ls st σ) : AW L M r pc ls (vI b :: vI a :: st) σ := by
  intro p l e s m args below meth c G H locs lsA hX hW hO hv
  have ha : IR a := at_1 hO
  have hb : IR b := at_0 hO
  have kt' := fun h => kt h p l e s m args below meth c G H locs lsA hX hW (ok_drop hO in_2) hv
  have kf' := fun h => kf h p l e s m args below meth c G H locs lsA hX hW (ok_drop hO in_2) hv
  exact lv_icmp_ne hX.1 hX.2.1 hd ht (fun h => kt' (fun q => h ((oi_eq ha hb).mpr q))) (fun h => kf' ((oi_eq ha hb).mp h))
theorem aw_if_ne {a off : Int} {tgt : Nat} (hd : decode M.2.1 pc = .ok (.ifCond .ne off, 3)) (ht : (pc : Int) + off = (tgt : Int)) (kt : ¬ a = 0 → AW L M r tgt ls st σ) (kf : a = 0 → AW L M r (pc + 3) ls st σ) : AW L M r pc ls (vI a :: st) σ := by
  intro p l e s m args below meth c G H locs lsA hX hW hO hv
  have ha : IR a := at_0 hO
  have hb : IR 0 := IR_0
  have kt' := fun h => kt h p l e s m args below meth c G H locs lsA hX hW (ok_drop hO in_1) hv
  have kf' := fun h => kf h p l e s m args below meth c G H locs lsA hX hW (ok_drop hO in_1) hv
  exact lv_if_ne hX.1 hX.2.1 hd ht (fun h => kt' (fun q => h ((oi_eq ha hb).mpr q))) (fun h => kf' ((oi_eq ha hb).mp h))
theorem aw_icmp_lt {a b off : Int} {tgt : Nat} (hd : decode M.2.1 pc = .ok (.if_icmp .lt off, 3)) (ht : (pc : Int) + off = (tgt : Int)) (kt : a < b → AW L M r tgt ls st σ) (kf : ¬ a < b → AW L M r (pc + 3) ls st σ) : AW L M r pc ls (vI b :: vI a :: st) σ := by
  intro p l e s m args below meth c G H locs lsA hX hW hO hv
  have ha : IR a := at_1 hO
  have hb : IR b := at_0 hO
  have kt' := fun h => kt h p l e s m args below meth c G H locs lsA hX hW (ok_drop hO in_2) hv
  have kf' := fun h => kf h p l e s m args below meth c G H locs lsA hX hW (ok_drop hO in_2) hv
  exact lv_icmp_lt hX.1 hX.2.1 hd ht (fun h => kt' ((oi_lt ha hb).mp h)) (fun h => kf' (fun q => h ((oi_lt ha hb).mpr q)))
theorem aw_if_lt {a off : Int} {tgt : Nat} (hd : decode M.2.1 pc = .ok (.ifCond .lt off, 3)) (ht : (pc : Int) + off = (tgt : Int)) (kt : a < 0 → AW L M r tgt ls st σ) (kf : ¬ a < 0 → AW L M r (pc + 3) ls st σ) : AW L M r pc ls (vI a :: st) σ := by
  intro p l e s m args below meth c G H locs lsA hX hW hO hv
  have ha : IR a := at_0 hO
  have hb : IR 0 := IR_0
  have kt' := fun h => kt h p l e s m args below meth c G H locs lsA hX hW (ok_drop hO in_1) hv
  have kf' := fun h => kf h p l e s m args below meth c G H locs lsA hX hW (ok_drop hO in_1) hv
  exact lv_if_lt hX.1 hX.2.1 hd ht (fun h => kt' ((oi_lt ha hb).mp h)) (fun h => kf' (fun q => h ((oi_lt ha hb).mpr q)))
theorem aw_icmp_ge {a b off : Int} {tgt : Nat} (hd : decode M.2.1 pc = .ok (.if_icmp .ge off, 3)) (ht : (pc : Int) + off = (tgt : Int)) (kt : b ≤ a → AW L M r tgt ls st σ) (kf : ¬ b ≤ a → AW L M r (pc + 3) ls st σ) : AW L M r pc ls (vI b :: vI a :: st) σ := by
  intro p l e s m args below meth c G H locs lsA hX hW hO hv
  have ha : IR a := at_1 hO
  have hb : IR b := at_0 hO
  have kt' := fun h => kt h p l e s m args below meth c G H locs lsA hX hW (ok_drop hO in_2) hv
  have kf' := fun h => kf h p l e s m args below meth c G H locs lsA hX hW (ok_drop hO in_2) hv
  exact lv_icmp_ge hX.1 hX.2.1 hd ht (fun h => kt' ((oi_le hb ha).mp h)) (fun h => kf' (fun q => h ((oi_le hb ha).mpr q)))
theorem aw_if_ge {a off : Int} {tgt : Nat} (hd : decode M.2.1 pc = .ok (.ifCond .ge off, 3)) (ht : (pc : Int) + off = (tgt : Int)) (kt : 0 ≤ a → AW L M r tgt ls st σ) (kf : ¬ 0 ≤ a → AW L M r (pc + 3) ls st σ) : AW L M r pc ls (vI a :: st) σ := by
  intro p l e s m args below meth c G H locs lsA hX hW hO hv
  have ha : IR a := at_0 hO
  have hb : IR 0 := IR_0
  have kt' := fun h => kt h p l e s m args below meth c G H locs lsA hX hW (ok_drop hO in_1) hv
  have kf' := fun h => kf h p l e s m args below meth c G H locs lsA hX hW (ok_drop hO in_1) hv
  exact lv_if_ge hX.1 hX.2.1 hd ht (fun h => kt' ((oi_le hb ha).mp h)) (fun h => kf' (fun q => h ((oi_le hb ha).mpr q)))
theorem aw_icmp_gt {a b off : Int} {tgt : Nat} (hd : decode M.2.1 pc = .ok (.if_icmp .gt off, 3)) (ht : (pc : Int) + off = (tgt : Int)) (kt : b < a → AW L M r tgt ls st σ) (kf : ¬ b < a → AW L M r (pc + 3) ls st σ) : AW L M r pc ls (vI b :: vI a :: st) σ := by
  intro p l e s m args below meth c G H locs lsA hX hW hO hv
  have ha : IR a := at_1 hO
  have hb : IR b := at_0 hO
  have kt' := fun h => kt h p l e s m args below meth c G H locs lsA hX hW (ok_drop hO in_2) hv
  have kf' := fun h => kf h p l e s m args below meth c G H locs lsA hX hW (ok_drop hO in_2) hv
  exact lv_icmp_gt hX.1 hX.2.1 hd ht (fun h => kt' ((oi_lt hb ha).mp h)) (fun h => kf' (fun q => h ((oi_lt hb ha).mpr q)))
theorem aw_if_gt {a off : Int} {tgt : Nat} (hd : decode M.2.1 pc = .ok (.ifCond .gt off, 3)) (ht : (pc : Int) + off = (tgt : Int)) (kt : 0 < a → AW L M r tgt ls st σ) (kf : ¬ 0 < a → AW L M r (pc + 3) ls st σ) : AW L M r pc ls (vI a :: st) σ := by
  intro p l e s m args below meth c G H locs lsA hX hW hO hv
  have ha : IR a := at_0 hO
  have hb : IR 0 := IR_0
  have kt' := fun h => kt h p l e s m args below meth c G H locs lsA hX hW (ok_drop hO in_1) hv
  have kf' := fun h => kf h p l e s m args below meth c G H locs lsA hX hW (ok_drop hO in_1) hv
  exact lv_if_gt hX.1 hX.2.1 hd ht (fun h => kt' ((oi_lt hb ha).mp h)) (fun h => kf' (fun q => h ((oi_lt hb ha).mpr q)))
theorem aw_icmp_le {a b off : Int} {tgt : Nat} (hd : decode M.2.1 pc = .ok (.if_icmp .le off, 3)) (ht : (pc : Int) + off = (tgt : Int)) (kt : a ≤ b → AW L M r tgt ls st σ) (kf : ¬ a ≤ b → AW L M r (pc + 3) ls st σ) : AW L M r pc ls (vI b :: vI a :: st) σ := by
  intro p l e s m args below meth c G H locs lsA hX hW hO hv
  have ha : IR a := at_1 hO
  have hb : IR b := at_0 hO
  have kt' := fun h => kt h p l e s m args below meth c G H locs lsA hX hW (ok_drop hO in_2) hv
  have kf' := fun h => kf h p l e s m args below meth c G H locs lsA hX hW (ok_drop hO in_2) hv
  exact lv_icmp_le hX.1 hX.2.1 hd ht (fun h => kt' ((oi_le ha hb).mp h)) (fun h => kf' (fun q => h ((oi_le ha hb).mpr q)))
theorem aw_if_le {a off : Int} {tgt : Nat} (hd : decode M.2.1 pc = .ok (.ifCond .le off, 3)) (ht : (pc : Int) + off = (tgt : Int)) (kt : a ≤ 0 → AW L M r tgt ls st σ) (kf : ¬ a ≤ 0 → AW L M r (pc + 3) ls st σ) : AW L M r pc ls (vI a :: st) σ := by
  intro p l e s m args below meth c G H locs lsA hX hW hO hv
  have ha : IR a := at_0 hO
  have hb : IR 0 := IR_0
  have kt' := fun h => kt h p l e s m args below meth c G H locs lsA hX hW (ok_drop hO in_1) hv
  have kf' := fun h => kf h p l e s m args below meth c G H locs lsA hX hW (ok_drop hO in_1) hv
  exact lv_if_le hX.1 hX.2.1 hd ht (fun h => kt' ((oi_le ha hb).mp h)) (fun h => kf' (fun q => h ((oi_le ha hb).mpr q)))
theorem aw_goto {off : Int} {tgt : Nat} (hd : decode M.2.1 pc = .ok (.goto off, 3)) (ht : (pc : Int) + off = (tgt : Int)) (k : AW L M r tgt ls st σ) : AW L M r pc ls st σ := by
  intro p l e s m args below meth c G H locs lsA hX hW hO hv
  exact lv_goto hX.1 hX.2.1 hd ht (k p l e s m args below meth c G H locs lsA hX hW hO hv)
theorem aw_ifnull {off : Int} {tgt : Nat} {o : Option Nat} (hd : decode M.2.1 pc = .ok (.ifnull off, 3)) (ht : (pc : Int) + off = (tgt : Int)) (kt : o = none → AW L M r tgt ls st σ) (kf : ∀ q, o = some q → AW L M r (pc + 3) ls st σ) : AW L M r pc ls (vR o :: st) σ := by
  intro p l e s m args below meth c G H locs lsA hX hW hO hv
  cases o with
  | none => exact lv_ifnullN hX.1 hX.2.1 hd ht (kt rfl p l e s m args below meth c G H locs lsA hX hW (ok_drop hO in_1) hv)
  | some q => exact lv_ifnull hX.1 hX.2.1 hd (kf q rfl p l e s m args below meth c G H locs lsA hX hW (ok_drop hO in_1) hv)
theorem aw_ifnonnull {off : Int} {tgt : Nat} {o : Option Nat} (hd : decode M.2.1 pc = .ok (.ifnonnull off, 3)) (ht : (pc : Int) + off = (tgt : Int)) (kt : ∀ q, o = some q → AW L M r tgt ls st σ) (kf : o = none → AW L M r (pc + 3) ls st σ) : AW L M r pc ls (vR o :: st) σ := by
  intro p l e s m args below meth c G H locs lsA hX hW hO hv
  cases o with
  | none => exact lv_ifnonnullN hX.1 hX.2.1 hd (kf rfl p l e s m args below meth c G H locs lsA hX hW (ok_drop hO in_1) hv)
  | some q => exact lv_ifnonnull hX.1 hX.2.1 hd ht (kt q rfl p l e s m args below meth c G H locs lsA hX hW (ok_drop hO in_1) hv)
theorem aw_tableOut {a dflt lo hi : Int} {offs : Array Int} {len tgt : Nat} (hd : decode M.2.1 pc = .ok (.tableswitch dflt lo hi offs, len)) (h : a < lo ∨ hi < a) (ht : (pc : Int) + dflt = (tgt : Int)) (k : AW L M r tgt ls st σ) : AW L M r pc ls (vI a :: st) σ := by
  intro p l e s m args below meth c G H locs lsA hX hW hO hv
  exact lv_tableOut hX.1 hX.2.1 hd (by rw [ti_of (at_0 hO)]; exact h) ht (k p l e s m args below meth c G H locs lsA hX hW (ok_drop hO in_1) hv)
theorem aw_tableIn {a dflt lo hi off : Int} {offs : Array Int} {len tgt : Nat} (hd : decode M.2.1 pc = .ok (.tableswitch dflt lo hi offs, len)) (h1 : ¬ a < lo) (h2 : ¬ hi < a) (ho : offs[(a - lo).toNat]? = some off) (ht : (pc : Int) + off = (tgt : Int)) (k : AW L M r tgt ls st σ) : AW L M r pc ls (vI a :: st) σ := by
  intro p l e s m args below meth c G H locs lsA hX hW hO hv
  have e1 : (Int32.ofInt a).toInt = a := ti_of (at_0 hO)
  exact lv_tableIn hX.1 hX.2.1 hd (by rw [e1]; exact h1) (by rw [e1]; exact h2) (by rw [e1]; exact ho) ht (k p l e s m args below meth c G H locs lsA hX hW (ok_drop hO in_1) hv)
theorem aw_lookup {a dflt off : Int} {ps : Array (Int × Int)} {len tgt : Nat} (hd : decode M.2.1 pc = .ok (.lookupswitch dflt ps, len)) (hp : (ps.toList.zip (ps.toList.drop 1)).all (fun (a, next) => a.1 < next.1) = true) (ho : Op.lookupswitch.offset ps.toList dflt a = off) (ht : (pc : Int) + off = (tgt : Int)) (k : AW L M r tgt ls st σ) : AW L M r pc ls (vI a :: st) σ := by
  intro p l e s m args below meth c G H locs lsA hX hW hO hv
  exact lv_lookup hX.1 hX.2.1 hd hp (by rw [ti_of (at_0 hO)]; exact ho) ht (k p l e s m args below meth c G H locs lsA hX hW (ok_drop hO in_1) hv)
-- fields
theorem ce_obj {G : Gd} {q ci : Nat} (h : L.2.1 q = 3 + ci) : ce L G σ q = .inr (ci, (List.range (L.2.2.1 q)).map (fdv L G σ q)) := by
  unfold ce
  rw [if_neg (by omega), if_neg (by omega), if_neg (by omega), h]
  congr 2
  omega
theorem fd_at {G : Gd} {q k n : Nat} (h : k < n) : ((List.range n).map (fdv L G σ q))[k]? = some (fdv L G σ q k) := by
  simp [List.getElem?_map, List.getElem?_range h]
theorem aw_getI {idx q ci kf : Nat} (hd : decode M.2.1 pc = .ok (.getfield idx, 3)) (hf : FK M.1.cls idx ci kf) (hq : PL L q ci) (hr : L.2.2.2 q kf = none) (k : AW L M r (pc + 3) ls (vI (σ q kf) :: st) σ) : AW L M r pc ls (vR (some q) :: st) σ := by
  intro p l e s m args below meth c G H locs lsA hX hW hO hv
  obtain ⟨C, T, N, ty, hc, hk, hlink, hin, hC, -, -⟩ := hf
  obtain ⟨hq1, hq2, hq3⟩ := hq
  have hN := hq3 C T N hc
  have K := k p l e s m args below meth c G H locs lsA hX hW (ok_push hO in_1 (hO.2.2 q kf)) hv
  exact va_get hX.1 hX.2.1 hX.2.2.2.2.2.2.1 hin hX.2.2.2.2.2.1 hX.2.2.2.2.2.2.2 hW.1 q (wo_at' hq1 (ce_obj hq2)) hc kf hk (hX.2.2.2.2.2.2.1 _ hlink) (fun _ h => by rw [hC] at h; exact h) (v := cv G (vI (σ q kf))) (by rw [hN, fd_at hk]; simp only [fdv, hr]; rfl) hd K
theorem aw_getR {idx q ci kf t : Nat} (hd : decode M.2.1 pc = .ok (.getfield idx, 3)) (hf : FK M.1.cls idx ci kf) (hq : PL L q ci) (hr : L.2.2.2 q kf = some t) (k : AW L M r (pc + 3) ls (vR (some t) :: st) σ) : AW L M r pc ls (vR (some q) :: st) σ := by
  intro p l e s m args below meth c G H locs lsA hX hW hO hv
  obtain ⟨C, T, N, ty, hc, hk, hlink, hin, hC, -, -⟩ := hf
  obtain ⟨hq1, hq2, hq3⟩ := hq
  have hN := hq3 C T N hc
  have K := k p l e s m args below meth c G H locs lsA hX hW (ok_push (v := vR (some t)) hO in_1 trivial) hv
  exact va_get hX.1 hX.2.1 hX.2.2.2.2.2.2.1 hin hX.2.2.2.2.2.1 hX.2.2.2.2.2.2.2 hW.1 q (wo_at' hq1 (ce_obj hq2)) hc kf hk (hX.2.2.2.2.2.2.1 _ hlink) (fun _ h => by rw [hC] at h; exact h) (v := cv G (vR (some t))) (by rw [hN, fd_at hk]; simp only [fdv, hr]; rfl) hd K
theorem fd_up {G : Gd} {q kf n : Nat} {v : Int} (hr : L.2.2.2 q kf = none) : ((List.range n).map (fdv L G σ q)).set kf (.int (Int32.ofInt v)) = (List.range n).map (fdv L G (up σ q kf v) q) := by
  apply List.ext_getElem?
  intro i
  by_cases hi : i < n
  · by_cases hk : i = kf
    · subst hk
      rw [List.getElem?_set_self (by simp [hi]), fd_at hi]
      simp [fdv, hr, up]
    · rw [List.getElem?_set_ne (Ne.symm hk), fd_at hi, fd_at hi]
      simp [fdv, up, hk]
  · rw [List.getElem?_eq_none (by simp; omega), List.getElem?_eq_none (by simp; omega)]
theorem aw_put {idx q ci kf : Nat} {v : Int} {t : FieldType} (hd : decode M.2.1 pc = .ok (.putfield idx, 3)) (hf : FK M.1.cls idx ci kf) (hq : PL L q ci) (hr : L.2.2.2 q kf = none) (hft : FT ci kf t) (hnar : narrow t (.int (Int32.ofInt v)) = .int (Int32.ofInt v) ∧ fits t (.int (Int32.ofInt v)) = true) (k : ∀ σ1, σ1 = up σ q kf v → AW L M r (pc + 3) ls st σ1) : AW L M r pc ls (vI v :: vR (some q) :: st) σ := by
  intro p l e s m args below meth c G H locs lsA hX hW hO hv
  obtain ⟨C, T, N, ty, hc, hk, hlink, hin, hC, hty, hnm⟩ := hf
  obtain ⟨hq1, hq2, hq3⟩ := hq
  have hN := hq3 C T N hc
  obtain ⟨hfin, hpd⟩ := hft C T N hc
  refine va_put (v := .int (Int32.ofInt v)) hX.1 hX.2.1 hX.2.2.2.2.2.2.1 hin ty hty hnm hX.2.2.2.2.2.1 hX.2.2.2.2.2.2.2 hW.1 hW.2.1 hW.2.2 q (wo_at' hq1 (ce_obj hq2)) hc kf hk (hX.2.2.2.2.2.2.1 _ hlink) (fun _ h => by rw [hC] at h; exact h) hfin hpd hnar.1 hnar.2 (by simp [hN]; exact hk) hd (fun H1 locs1 hP1 hD1 hS1 => ?_)
  rw [fd_up hr, wo_set (σ' := up σ q kf v) hq1 (ce_obj hq2) up_off] at hP1 hD1
  exact k _ rfl p l e s m args below meth c G H1 locs1 lsA hX ⟨hP1, hD1, hS1⟩ (ok_up hO in_2 (at_0 hO)) hv
theorem nar_int (v : Int) : narrow .int (.int (Int32.ofInt v)) = .int (Int32.ofInt v) ∧ fits .int (.int (Int32.ofInt v)) = true := ⟨rfl, rfl⟩
theorem nar_bool {v : Int} (h : v = 0 ∨ v = 1) : narrow .boolean (.int (Int32.ofInt v)) = .int (Int32.ofInt v) ∧ fits .boolean (.int (Int32.ofInt v)) = true := by
  rcases h with rfl | rfl <;> exact ⟨by decide, by decide⟩
-- rows
theorem aw_iald {q n : Nat} {i : Int} (hd : decode M.2.1 pc = .ok (.iaload, 1)) (hq : AR L q 0 n) (hi : 0 ≤ i ∧ i < n) (k : AW L M r (pc + 1) ls (vI (σ q i.toNat) :: st) σ) : AW L M r pc ls (vI i :: vR (some q) :: st) σ := by
  intro p l e s m args below meth c G H locs lsA hX hW hO hv
  obtain ⟨hq1, hq2, hq3⟩ := hq
  have hR : IR i := at_0 hO
  have K := k p l e s m args below meth c G H locs lsA hX hW (ok_push hO in_2 (hO.2.2 q i.toNat)) hv
  refine va_iald hX.1 hX.2.1 hX.2.2.2.2.2.2.2 hW.1 q 0 (wo_at' hq1 (by unfold ce; rw [if_pos hq2])) rfl (oi_in hR (by rw [hq3]; exact hi)) hd ?_
  rw [oi_nat hR]
  exact K
theorem aw_zald {q n : Nat} {i : Int} (hd : decode M.2.1 pc = .ok (.baload, 1)) (hq : AR L q 1 n) (hi : 0 ≤ i ∧ i < n) (k : AW L M r (pc + 1) ls (vI (σ q i.toNat) :: st) σ) : AW L M r pc ls (vI i :: vR (some q) :: st) σ := by
  intro p l e s m args below meth c G H locs lsA hX hW hO hv
  obtain ⟨hq1, hq2, hq3⟩ := hq
  have hR : IR i := at_0 hO
  have K := k p l e s m args below meth c G H locs lsA hX hW (ok_push hO in_2 (hO.2.2 q i.toNat)) hv
  refine va_zald hX.1 hX.2.1 hX.2.2.2.2.2.2.2 hW.1 q 1 (wo_at' hq1 (by unfold ce; rw [if_neg (by omega), if_pos hq2])) rfl (oi_in hR (by rw [hq3]; exact hi)) hd ?_
  rw [oi_nat hR]
  exact K
theorem row_up {G : Gd} {q j : Nat} {v : Int} : (fun i => Int32.ofInt (up σ q j v q i)) = upd (fun i => Int32.ofInt (σ q i)) j (Int32.ofInt v) := by
  funext i
  simp only [up_row, upd]
  split <;> rfl
theorem aw_iast {q n : Nat} {i v : Int} (hd : decode M.2.1 pc = .ok (.iastore, 1)) (hq : AR L q 0 n) (hi : 0 ≤ i ∧ i < n) (k : ∀ σ1, σ1 = up σ q i.toNat v → AW L M r (pc + 1) ls st σ1) : AW L M r pc ls (vI v :: vI i :: vR (some q) :: st) σ := by
  intro p l e s m args below meth c G H locs lsA hX hW hO hv
  obtain ⟨hq1, hq2, hq3⟩ := hq
  have hR : IR i := at_1 hO
  refine va_iast hX.1 hX.2.1 hX.2.2.2.2.2.2.2 hW.1 hW.2.1 hW.2.2 q 0 (wo_at' hq1 (by unfold ce; rw [if_pos hq2])) rfl (oi_in hR (by rw [hq3]; exact hi)) hd (fun H1 locs1 hP1 hD1 hS1 => ?_)
  rw [oi_nat hR, ← row_up (G := G), wo_set (σ' := up σ q i.toNat v) hq1 (by unfold ce; rw [if_pos hq2]) up_off] at hP1 hD1
  exact k _ rfl p l e s m args below meth c G H1 locs1 lsA hX ⟨hP1, hD1, hS1⟩ (ok_up hO in_3 (at_0 hO)) hv
theorem nar_z {v : Int} (h : v = 0 ∨ v = 1) : vp_nar .boolean (Int32.ofInt v) = Int32.ofInt v := by
  rcases h with rfl | rfl <;> decide
theorem aw_zast {q n : Nat} {i v : Int} (hd : decode M.2.1 pc = .ok (.bastore, 1)) (hq : AR L q 1 n) (hi : 0 ≤ i ∧ i < n) (hb : v = 0 ∨ v = 1) (k : ∀ σ1, σ1 = up σ q i.toNat v → AW L M r (pc + 1) ls st σ1) : AW L M r pc ls (vI v :: vI i :: vR (some q) :: st) σ := by
  intro p l e s m args below meth c G H locs lsA hX hW hO hv
  obtain ⟨hq1, hq2, hq3⟩ := hq
  have hR : IR i := at_1 hO
  refine va_zast hX.1 hX.2.1 hX.2.2.2.2.2.2.2 hW.1 hW.2.1 hW.2.2 q 1 (wo_at' hq1 (by unfold ce; rw [if_neg (by omega), if_pos hq2])) rfl (oi_in hR (by rw [hq3]; exact hi)) hd (fun H1 locs1 hP1 hD1 hS1 => ?_)
  rw [oi_nat hR, nar_z hb, ← row_up (G := G), wo_set (σ' := up σ q i.toNat v) hq1 (by unfold ce; rw [if_neg (by omega), if_pos hq2]) up_off] at hP1 hD1
  exact k _ rfl p l e s m args below meth c G H1 locs1 lsA hX ⟨hP1, hD1, hS1⟩ (ok_up hO in_3 (at_0 hO)) hv
theorem aw_aald {q n : Nat} {i : Int} (hd : decode M.2.1 pc = .ok (.aaload, 1)) (hq : AR L q 2 n) (hi : 0 ≤ i ∧ i < n) (k : AW L M r (pc + 1) ls (vR (L.2.2.2 q i.toNat) :: st) σ) : AW L M r pc ls (vI i :: vR (some q) :: st) σ := by
  intro p l e s m args below meth c G H locs lsA hX hW hO hv
  obtain ⟨hq1, hq2, hq3⟩ := hq
  have hR : IR i := at_0 hO
  have K := k p l e s m args below meth c G H locs lsA hX hW (ok_push (v := vR (L.2.2.2 q i.toNat)) hO in_2 trivial) hv
  refine va_aldq hX.1 hX.2.1 hX.2.2.2.2.2.2.2 hW.1 q 2 (wo_at' hq1 (by unfold ce; rw [if_neg (by omega), if_neg (by omega), if_pos hq2])) rfl (oi_in hR (by rw [hq3]; exact hi)) hd ?_
  rw [oi_nat hR]
  cases hx : L.2.2.2 q i.toNat with
  | none => rw [hx] at K; exact K
  | some x => rw [hx] at K; exact K
theorem aw_alen {q n t : Nat} (hd : decode M.2.1 pc = .ok (.arraylength, 1)) (hq : AR L q t n) (ht : t < 3) (hn : IR n) (k : AW L M r (pc + 1) ls (vI n :: st) σ) : AW L M r pc ls (vR (some q) :: st) σ := by
  intro p l e s m args below meth c G H locs lsA hX hW hO hv
  obtain ⟨hq1, hq2, hq3⟩ := hq
  have K := k p l e s m args below meth c G H locs lsA hX hW (ok_push hO in_1 hn) hv
  match t, ht with
  | 0, _ => exact va_alen hX.1 hX.2.1 hX.2.2.2.2.2.2.2 hW.1 q 0 (wo_at' hq1 (by unfold ce; rw [if_pos hq2])) rfl (by show Int32.ofNat (L.2.2.1 q) = Int32.ofInt n; rw [hq3, Int32.ofInt_eq_ofNat]) hd K
  | 1, _ => exact va_alen hX.1 hX.2.1 hX.2.2.2.2.2.2.2 hW.1 q 1 (wo_at' hq1 (by unfold ce; rw [if_neg (by omega), if_pos hq2])) rfl (by show Int32.ofNat (L.2.2.1 q) = Int32.ofInt n; rw [hq3, Int32.ofInt_eq_ofNat]) hd K
  | 2, _ => exact va_alen hX.1 hX.2.1 hX.2.2.2.2.2.2.2 hW.1 q 2 (wo_at' hq1 (by unfold ce; rw [if_neg (by omega), if_neg (by omega), if_pos hq2])) rfl (by show Int32.ofNat (L.2.2.1 q) = Int32.ofInt n; rw [hq3, Int32.ofInt_eq_ofNat]) hd K
-- ends
theorem pq_of {G : Gd} {s t : State} {H : Heap} {locs : List Loc} {v : Option AV} {a : Array Value} {oc : Outcome} (hK : va_K G.1 vwCl (tys G) s) (hW : WD L G s σ H locs) (ho : okr (v, σ)) (he : oc = .returned (v.map (cv G))) (ht : t.heap = H) (hw : s.WarmedH t.vm) : PQ L G (v, σ) s.heap.size a s oc t :=
  ⟨⟨he, ho, by rw [ht]; exact hW.1, va_K.moved hw.alike hK⟩, hW.2.2.F ht⟩
theorem aw_iret {x : Int} (hd : decode M.2.1 pc = .ok (.ireturn, 1)) (hr : M.2.2.2.1 = some .int) : AW L M (some (vI x), σ) pc ls [vI x] σ := by
  intro p l e s m args below meth c G H locs lsA hX hW hO hv
  have hlocks : meth.locks = false := hX.2.2.2.2.1
  have ho : okr (some (vI x), σ) := ⟨fun v h => by obtain rfl := Option.some.inj h; exact at_0 hO, hO.2.2⟩
  exact W.iret hX.1 hX.2.1 (hX.2.2.2.1.trans hr) (fun t ht hw => pq_of hX.2.2.2.2.2.2.2 hW ho rfl ht hw) hW.2.2.2.2 hd
theorem aw_zret {x : Int} (hd : decode M.2.1 pc = .ok (.ireturn, 1)) (hr : M.2.2.2.1 = some .boolean) (hx : x = 0 ∨ x = 1) : AW L M (some (vI x), σ) pc ls [vI x] σ := by
  intro p l e s m args below meth c G H locs lsA hX hW hO hv
  have hlocks : meth.locks = false := hX.2.2.2.2.1
  have ho : okr (some (vI x), σ) := ⟨fun v h => by obtain rfl := Option.some.inj h; exact at_0 hO, hO.2.2⟩
  exact W.zret hX.1 hX.2.1 (hX.2.2.2.1.trans hr) (nar_bool hx).1 (fun t ht hw => pq_of hX.2.2.2.2.2.2.2 hW ho rfl ht hw) hW.2.2.2.2 hd
theorem aw_lret {x : Int} (hd : decode M.2.1 pc = .ok (.lreturn, 1)) (hr : M.2.2.2.1 = some .long) : AW L M (some (vL x), σ) pc ls [vL x] σ := by
  intro p l e s m args below meth c G H locs lsA hX hW hO hv
  have hlocks : meth.locks = false := hX.2.2.2.2.1
  have ho : okr (some (vL x), σ) := ⟨fun v h => by obtain rfl := Option.some.inj h; exact at_0 hO, hO.2.2⟩
  exact W.lret hX.1 hX.2.1 (hX.2.2.2.1.trans hr) (fun t ht hw => pq_of hX.2.2.2.2.2.2.2 hW ho rfl ht hw) hW.2.2.2.2 hd
theorem aw_aret {x : Option Nat} {C : String} (hd : decode M.2.1 pc = .ok (.areturn, 1)) (hr : M.2.2.2.1 = some (.object C)) : AW L M (some (vR x), σ) pc ls [vR x] σ := by
  intro p l e s m args below meth c G H locs lsA hX hW hO hv
  have hlocks : meth.locks = false := hX.2.2.2.2.1
  have ho : okr (some (vR x), σ) := ⟨fun v h => by obtain rfl := Option.some.inj h; exact at_0 hO, hO.2.2⟩
  refine W.aret (v := cv G (vR x)) hX.1 hX.2.1 (hX.2.2.2.1.trans hr) (Or.inl ⟨C, rfl⟩) ?_ (fun t ht hw => pq_of hX.2.2.2.2.2.2.2 hW ho rfl ht hw) hW.2.2.2.2 hd
  cases x with
  | none => exact Or.inl rfl
  | some q => exact Or.inr ⟨_, rfl⟩
theorem aw_vret (hd : decode M.2.1 pc = .ok (.return_, 1)) (hr : M.2.2.2.1 = none) : AW L M (none, σ) pc ls [] σ := by
  intro p l e s m args below meth c G H locs lsA hX hW hO hv
  have hlocks : meth.locks = false := hX.2.2.2.2.1
  have ho : okr (none, σ) := ⟨fun v h => (by cases h), hO.2.2⟩
  exact W.vret hX.1 hX.2.1 (hX.2.2.2.1.trans hr) (fun t ht hw => pq_of hX.2.2.2.2.2.2.2 hW ho rfl ht hw) hW.2.2.2.2 hd
end Rules2
end
section
/-! ===== the rules: calls, a method's entry ===== -/
def stw : List AV → Nat
  | [] => 0
  | v :: t => (if isL v then 2 else 1) + stw t
theorem stw_sum (G : Gd) : ∀ st : List AV, ((st.map (cv G)).map fun v => v.category).sum = stw st
  | [] => rfl
  | v :: t => by
      simp only [List.map_cons, List.sum_cons, stw, stw_sum G t, cat_cv]
section Calls2
variable {L : Lay} {M M2 : MI} {r r2 : Option AV × SS} {pc idx : Nat} {ls : List (Option AV)} {st : List AV} {σ : SS}
theorem AA_up {G : Gd} {a b : Nat} (h : a ≤ b) : ∀ q, AA L G b q → AA L G a q := by
  rintro q (h1 | h1)
  · exact Or.inl h1
  · exact Or.inr (Nat.le_trans h h1)
theorem aw_run {p : Program} {l : Launch} {e : Env} {R : Room} {s : State} {m : MethodId} {args : Array Value} {below : List Frame} {meth : Method} {c : Code} {G : Gd} {H : Heap} {locs : List Loc} {lsA : Array Slot} {st0 rest : List Value} {a : Array Value} {Q : State → Prop}
    (hr : va_Run p l e R s m args below meth c H locs 0 0 0 0 (F0 m pc lsA st0) rest (PQ L G r2 H.size a) (AA L G H.size)) (hS : va_S (AA L G s.heap.size) s.heap H locs)
    (kk : ∀ (H1 : Heap) (locs1 : List Loc), okr r2 → va_P G.1 vwCl (wo L G r2.2) H1 → va_S (AA L G s.heap.size) s.heap H1 locs1 → W p l e R s m args below meth c H1 locs1 0 0 Q (F0 m (pc + 3) lsA ((r2.1.map (cv G)).toList ++ rest))) : W p l e R s m args below meth c H locs 0 0 Q (F0 m pc lsA st0) := by
  intro T hT X
  obtain ⟨v, st₀, t, T', L1, h0, X', hL, e1, e2, ⟨⟨hv, ho, hP, hK⟩, hz, hk⟩, st⟩ := hr T hT X
  obtain rfl : v = r2.1.map (cv G) := by injection hv
  rw [h0] at hz hk
  obtain ⟨t2, a1, b1⟩ := kk T'.heap (locs ++ L1) ho (by rw [e1]; exact hP)
    ⟨Nat.le_trans hS.1 (by rw [e1]; exact hz), fun q h1 h2 => by rw [e1, hk q (Nat.lt_of_lt_of_le h1 hS.1) (fun z => h2 (AA_up hS.1 q z))]; exact hS.2.1 q h1 h2, fun q hq => by
      rcases List.mem_append.mp hq with h | h
      · exact hS.2.2 q h
      · exact AA_up hS.1 _ (hL q h)⟩ T' rfl X'
  exact ⟨t2, st t2 a1, b1⟩
theorem pc_blind {G : Gd} {sz : Nat} {vs : List Value} : FrameBlind (va_Pc vs (fun U => U.heap.size = sz ∧ va_P G.1 vwCl (wo L G σ) U.heap ∧ va_K G.1 vwCl (tys G) U ∧ va_D (fun _ => True) (wo L G σ))) := by
  intro a U g mk q
  obtain ⟨q0, q1, qP, qK, qD⟩ := q
  exact ⟨q0, q1, qP, va_K.moved (u := U) (U := U.calling g mk a) (Vm.Alike.refl U.vm) qK, qD⟩
theorem pc_at {G : Gd} {s : State} {H : Heap} {locs : List Loc} {vs : List Value} (hK : va_K G.1 vwCl (tys G) s) (hW : WD L G s σ H locs) : ∀ U : State, U.heap = H → s.WarmedH U.vm → va_Pc vs (fun U => U.heap.size = H.size ∧ va_P G.1 vwCl (wo L G σ) U.heap ∧ va_K G.1 vwCl (tys G) U ∧ va_D (fun _ => True) (wo L G σ)) vs.toArray U := by
  intro U hU hw
  exact ⟨rfl, by rw [hU], by rw [hU]; exact hW.1, va_K.moved hw.alike hK, hW.2.1.weaken (fun _ _ _ _ => trivial)⟩
/-- an object's method, called from a method -/
theorem aw_callV {q ci n : Nat} {as : List AV} (hd : decode M.2.1 pc = .ok (.invokevirtual idx, 3)) (hl : Cond.methodLink M.1.cls idx M2.1 ∈ gtb) (hm : MK M2 n) (hv : MV M2) (hR : RF M2 M) (hq : PL L q ci) (hci : ∃ (T : u_T) (N : Nat), vwCl[ci]? = some (M2.1.cls, T, N)) (hn : as.length = n) (hst : stw st ≤ 8)
    (hc : CT L M2 (vR (some q) :: as) σ r2) (k : AW L M r (pc + 3) ls (r2.1.toList ++ st) r2.2) : AW L M r pc ls (as.reverse ++ vR (some q) :: st) σ := by
  intro p l e s m args below meth c G H locs lsA hX hW hO hl2
  obtain ⟨T, N, hcl⟩ := hci
  have hts := hX.2.2.2.2.2.2.1
  have hK := hX.2.2.2.2.2.2.2
  have hM := hc (fun w hw => by
    rcases List.mem_cons.mp hw with rfl | hw
    · trivial
    · exact hO.2.1 w (List.mem_append_left _ (List.mem_reverse.mpr hw))) hO.2.2 l G H.size
  have cb := callB_of (R := M.2.2.2.2) (own := M.1.cls) (index := idx) (bytes := M2.2.1) (maxL := M2.2.2.1) (ret := M2.2.2.2.1) n hts (good_M hm) rfl hm.2.2.2.1 hm.2.2.2.2 (hts _ hm.2.1) (hts _ hl) hm.2.2.1 hR
  have hrun := va_runV (b := G.2.2 q) (As := as.map (cv G)) (rest := st.map (cv G)) (C := M2.1.cls) (locs := locs) (cells := 0) (slots := 0) (below := below) (meth := meth) (e := e) (g := F0 m pc lsA ((as.reverse ++ vR (some q) :: st).map (cv G))) ⟨hX.1, hX.2.1, hX.2.2.1, hX.2.2.2.2.2.1, hts⟩ hM ⟨cb, hts _ hv.1, hts _ hv.2⟩ ⟨pc_blind, va_recv hK hW.1 hcl (wo_at' hq.1 (ce_obj hq.2.1)), pc_at hK hW⟩ rfl (by simp [hn]) hl2.1 (by simp [cv]) (by show 2 * 0 + _ ≤ 8; rw [stw_sum]; omega) hd ⟨Nat.zero_le _, Nat.zero_le _⟩
  refine aw_run hrun hW.2.2 (fun H1 locs1 ho hP1 hS1 => ?_)
  have K := k p l e s m args below meth c G H1 locs1 lsA hX ⟨hP1, va_D_wo hW.2.1, hS1⟩ ⟨hO.1, fun w hw => ?_, ho.2⟩ hl2
  · rw [List.map_append] at K
    cases hr1 : r2.1 with
    | none => rw [hr1] at K; exact K
    | some v => rw [hr1] at K; exact K
  · rcases List.mem_append.mp hw with h | h
    · exact ho.1 w (Option.mem_toList.mp h)
    · exact hO.2.1 w (List.mem_append_right _ (List.mem_cons_of_mem _ h))
/-- a static method -/
theorem aw_callS {n : Nat} {as : List AV} (hd : decode M.2.1 pc = .ok (.invokestatic idx, 3)) (hl : Cond.methodLink M.1.cls idx M2.1 ∈ gtb) (hm : MK M2 n) (hv : Cond.static M2.1 ∈ gtb) (hR : RF M2 M) (hn : as.length = n) (hst : stw st ≤ 8)
    (hc : CT L M2 as σ r2) (k : AW L M r (pc + 3) ls (r2.1.toList ++ st) r2.2) : AW L M r pc ls (as.reverse ++ st) σ := by
  intro p l e s m args below meth c G H locs lsA hX hW hO hl2
  have hts := hX.2.2.2.2.2.2.1
  have hK := hX.2.2.2.2.2.2.2
  have hM := hc (fun w hw => hO.2.1 w (List.mem_append_left _ (List.mem_reverse.mpr hw))) hO.2.2 l G H.size
  have cb := callB_of (R := M.2.2.2.2) (own := M.1.cls) (index := idx) (bytes := M2.2.1) (maxL := M2.2.2.1) (ret := M2.2.2.2.1) n hts (good_M hm) rfl hm.2.2.2.1 hm.2.2.2.2 (hts _ hm.2.1) (hts _ hl) hm.2.2.1 hR
  have hrun := va_runS (As := as.map (cv G)) (rest := st.map (cv G)) (locs := locs) (cells := 0) (slots := 0) (below := below) (meth := meth) (e := e) (g := F0 m pc lsA ((as.reverse ++ st).map (cv G))) ⟨hX.1, hX.2.1, hX.2.2.1, hX.2.2.2.2.2.1, hts⟩ hM ⟨cb, hts _ hv⟩ ⟨pc_blind, pc_at hK hW⟩ rfl (by simp [hn]) hl2.1 (by simp) (by show 2 * 0 + _ ≤ 8; rw [stw_sum]; omega) hd ⟨Nat.zero_le _, Nat.zero_le _⟩
  refine aw_run hrun hW.2.2 (fun H1 locs1 ho hP1 hS1 => ?_)
  have K := k p l e s m args below meth c G H1 locs1 lsA hX ⟨hP1, va_D_wo hW.2.1, hS1⟩ ⟨hO.1, fun w hw => ?_, ho.2⟩ hl2
  · rw [List.map_append] at K
    cases hr1 : r2.1 with
    | none => rw [hr1] at K; exact K
    | some v => rw [hr1] at K; exact K
  · rcases List.mem_append.mp hw with h | h
    · exact ho.1 w (Option.mem_toList.mp h)
    · exact hO.2.1 w (List.mem_append_right _ h)
theorem aw_max {a b : Int} (hd : decode M.2.1 pc = .ok (.invokestatic idx, 3)) (hl : Cond.methodLink M.1.cls idx Lib.Math.max.name ∈ gtb) (h1 : Cond.static Lib.Math.max.name ∈ gtb) (h2 : Cond.initialized "java/lang/Math" ∈ gtb) (h3 : Cond.code Lib.Math.max.name Lib.Math.max.code 2 (some .int) ∈ gtb) (hf : 1 ≤ M.2.2.2.2.frames ∧ 21 ≤ M.2.2.2.2.locals) (hst : stw st ≤ 8) (k : AW L M r (pc + 3) ls (vI (if a < b then b else a) :: st) σ) : AW L M r pc ls (vI b :: vI a :: st) σ := by
  intro p l e s m args below meth c G H locs lsA hX hW hO hv
  have hts := hX.2.2.2.2.2.2.1
  have ha : IR a := at_1 hO
  have hb : IR b := at_0 hO
  have K := k p l e s m args below meth c G H locs lsA hX hW (ok_push hO in_2 (by show IR (if a < b then b else a); split <;> assumption)) hv
  refine va_mmax hX.1 hX.2.1 (hX.2.2.1.trans hv.1.symm) hX.2.2.2.2.2.1 (hts _ hl) (hts _ h1) (hts _ h2) (hts _ h3) hf.1 (by rw [stw_sum]; omega) (Nat.zero_le _) (Nat.zero_le _) hd ?_
  have e1 : (if Int32.ofInt a < Int32.ofInt b then Int32.ofInt b else Int32.ofInt a) = Int32.ofInt (if a < b then b else a) := by
    simp only [oi_lt ha hb]
    split <;> rfl
  rw [e1]
  exact K
theorem aw_min {a b : Int} (hd : decode M.2.1 pc = .ok (.invokestatic idx, 3)) (hl : Cond.methodLink M.1.cls idx Lib.Math.min.name ∈ gtb) (h1 : Cond.static Lib.Math.min.name ∈ gtb) (h2 : Cond.initialized "java/lang/Math" ∈ gtb) (h3 : Cond.code Lib.Math.min.name Lib.Math.min.code 2 (some .int) ∈ gtb) (hf : 1 ≤ M.2.2.2.2.frames ∧ 21 ≤ M.2.2.2.2.locals) (hst : stw st ≤ 8) (k : AW L M r (pc + 3) ls (vI (if b < a then b else a) :: st) σ) : AW L M r pc ls (vI b :: vI a :: st) σ := by
  intro p l e s m args below meth c G H locs lsA hX hW hO hv
  have hts := hX.2.2.2.2.2.2.1
  have ha : IR a := at_1 hO
  have hb : IR b := at_0 hO
  have K := k p l e s m args below meth c G H locs lsA hX hW (ok_push hO in_2 (by show IR (if b < a then b else a); split <;> assumption)) hv
  refine va_mmin hX.1 hX.2.1 (hX.2.2.1.trans hv.1.symm) hX.2.2.2.2.2.1 (hts _ hl) (hts _ h1) (hts _ h2) (hts _ h3) hf.1 (by rw [stw_sum]; omega) (Nat.zero_le _) (Nat.zero_le _) hd ?_
  have e1 : (if Int32.ofInt b < Int32.ofInt a then Int32.ofInt b else Int32.ofInt a) = Int32.ofInt (if b < a then b else a) := by
    simp only [oi_lt hb ha]
    split <;> rfl
  rw [e1]
  exact K
/-- a copy of ints out of one place into another -/
def cpy (σ : SS) (q0 q1 i j n : Nat) : SS := fun q k => if q = q1 ∧ j ≤ k ∧ k < j + n then σ q0 (i + (k - j)) else σ q k
theorem aw_copy {q0 q1 n0 n1 : Nat} {i j n : Int} (hd : decode M.2.1 pc = .ok (.invokestatic idx, 3)) (hl : Cond.methodLink M.1.cls idx arraycopyName ∈ gtb) (h1 : Cond.native arraycopyName ∈ gtb) (h2 : Cond.static arraycopyName ∈ gtb) (h3 : Cond.initialized "java/lang/System" ∈ gtb) (hq0 : AR L q0 0 n0) (hq1 : AR L q1 0 n1) (hi : 0 ≤ i ∧ 0 ≤ j ∧ 0 ≤ n ∧ i + n ≤ n0 ∧ j + n ≤ n1) (hf : 1 ≤ M.2.2.2.2.frames ∧ 8 + (nativeFrameWords "java/lang/System" "arraycopy" 5 + 11) ≤ M.2.2.2.2.locals) (hst : stw st ≤ 8) (k : ∀ σ1, σ1 = cpy σ q0 q1 i.toNat j.toNat n.toNat → AW L M r (pc + 3) ls st σ1) : AW L M r pc ls (vI n :: vI j :: vR (some q1) :: vI i :: vR (some q0) :: st) σ := by
  intro p l e s m args below meth c G H locs lsA hX hW hO hv
  have hts := hX.2.2.2.2.2.2.1
  obtain ⟨a1, a2, a3⟩ := hq0
  obtain ⟨b1, b2, b3⟩ := hq1
  have hn : IR n := at_0 hO
  have hj : IR j := at_1 hO
  have hii : IR i := hO.2.1 (vI i) (by simp)
  have nlt : ∀ {x : Int}, IR x → 0 ≤ x → ¬ Int32.ofInt x < 0 := fun {x} hx h q => by
    have := (oi_lt hx IR_0).mp q
    omega
  refine va_copyi (ty := .int) hX.1 hX.2.1 (hX.2.2.1.trans hv.1.symm) hX.2.2.2.2.2.1 (hts _ hl) (hts _ h1) (hts _ h2) (hts _ h3) hX.2.2.2.2.2.2.2 hW.1 hW.2.1 hW.2.2 q0 q1 0 0 (wo_at' a1 (by unfold ce; rw [if_pos a2])) (wo_at' b1 (by unfold ce; rw [if_pos b2])) rfl rfl rfl (nlt hii hi.1) (nlt hj hi.2.1) (nlt hn hi.2.2.1) (by rw [oi_nat hii, oi_nat hn, a3]; omega) (by rw [oi_nat hj, oi_nat hn, b3]; omega) (fun _ _ => rfl) hf.1 (by rw [stw_sum]; omega) hd (fun H1 locs1 hP1 hD1 hS1 => ?_)
  have e1 : va_cpy (fun x => Int32.ofInt (σ q0 x)) (fun x => Int32.ofInt (σ q1 x)) (Int32.ofInt i).toNatClampNeg (Int32.ofInt j).toNatClampNeg (Int32.ofInt n).toNatClampNeg = fun x => Int32.ofInt (cpy σ q0 q1 i.toNat j.toNat n.toNat q1 x) := by
    rw [oi_nat hii, oi_nat hj, oi_nat hn]
    funext x
    simp only [va_cpy, cpy, true_and]
    split <;> rfl
  have off : ∀ p, p ≠ q1 → ∀ x, cpy σ q0 q1 i.toNat j.toNat n.toNat p x = σ p x := by
    intro p hp x
    simp [cpy, hp]
  rw [e1, wo_set (σ' := cpy σ q0 q1 i.toNat j.toNat n.toNat) b1 (by unfold ce; rw [if_pos b2]) off] at hP1 hD1
  refine k _ rfl p l e s m args below meth c G H1 locs1 lsA hX ⟨hP1, hD1, hS1⟩ ⟨hO.1, fun w hw => hO.2.1 w (by simp [hw]), fun q x => ?_⟩ hv
  unfold cpy
  split <;> exact hO.2.2 _ _
/-- a method's entry: where its arguments lie -/
def lsO : List AV → List (Option AV)
  | [] => []
  | v :: t => if isL v then some v :: none :: lsO t else some v :: lsO t
theorem lsO_args (G : Gd) : ∀ (vs : List AV) (b i : Nat) (w : AV), (lsO vs)[i]? = some (some w) → (b + i, cv G w) ∈ lv_args b (vs.map (cv G))
  | [], b, i, w, h => by simp [lsO] at h
  | v :: t, b, i, w, h => by
      have hc := cat_cv (G := G) (v := v)
      cases hv : isL v with
      | true =>
        rw [hv] at hc
        simp only [lsO, hv, if_true] at h
        simp only [List.map_cons, lv_args, hc, if_true]
        match i, h with
        | 0, h =>
          have e : v = w := by simpa using h
          subst e
          exact List.mem_cons_self
        | 1, h => simp at h
        | i + 2, h =>
          have := lsO_args G t (b + 2) i w (by simpa using h)
          refine List.mem_cons_of_mem _ ?_
          rw [show b + (i + 2) = b + 2 + i by omega]
          exact this
      | false =>
        rw [hv] at hc
        simp only [lsO, hv] at h
        simp only [List.map_cons, lv_args, hc]
        match i, h with
        | 0, h =>
          have e : v = w := by simpa using h
          subst e
          exact List.mem_cons_self
        | i + 1, h =>
          have := lsO_args G t (b + 1) i w (by simpa using h)
          refine List.mem_cons_of_mem _ ?_
          rw [show b + (i + 1) = b + 1 + i by omega]
          exact this
theorem lsO_mem : ∀ (vs : List AV) (w : AV), some w ∈ lsO vs → w ∈ vs
  | [], w, h => by simp [lsO] at h
  | v :: t, w, h => by
      cases hv : isL v with
      | true =>
        simp only [lsO, hv, if_true] at h
        rcases List.mem_cons.mp h with h | h
        · rw [Option.some.inj h]; exact List.mem_cons_self
        · rcases List.mem_cons.mp h with h | h
          · cases h
          · exact List.mem_cons_of_mem _ (lsO_mem t w h)
      | false =>
        simp only [lsO, hv] at h
        rcases List.mem_cons.mp h with h | h
        · rw [Option.some.inj h]; exact List.mem_cons_self
        · exact List.mem_cons_of_mem _ (lsO_mem t w h)
theorem ct_of {vs : List AV} {n : Nat} (hp : plainName M.1.cls = true) (hw : (vs.map (fun v => if isL v then 2 else 1)).sum ≤ M.2.2.1) (k : AW L M r 0 (lsO vs ++ List.replicate n none) [] σ) : CT L M vs σ r := by
  intro hvs hσ l G sz
  refine Met.ofW (cc := M.2.1) (maxL := M.2.2.1) (ret := M.2.2.2.1) hp rfl ?_
  intro p e s m args below meth c s₁ B hml hv
  obtain ⟨rfl, hsz, hP, hK, hD0⟩ := hv
  have hts := atoms_spec (ws := wsM M) B.pre
  have hown : s.vm.findClass M.1.cls = some m.cls := findClass_of_methodNamed B.named
  subst hsz
  have hD := hD0.self (sz := s.heap.size)
  rw [va_A_wo] at hD
  have hlen : ∀ us : List AV, (lg_sl (us.map (cv G))).length = (us.map (fun v => if isL v then 2 else 1)).sum := by
    intro us
    induction us with
    | nil => rfl
    | cons v t ih =>
      simp only [List.map_cons, List.sum_cons, ← ih]
      cases hv : isL v with
      | true => rcases v with a | a | _ | a <;> first | (cases hv; done) | (simp [lg_sl, cv, Value.category]; omega)
      | false => rcases v with a | a | _ | a <;> first | (cases hv; done) | (simp [lg_sl, cv, Value.category]; omega)
  have hl := lv_entry (vs.map (cv G)) (n := M.2.2.1) (by rw [hlen]; exact hw)
  rw [lg_entry_eq]
  have hl2 := lv_less (l' := LVs G (lsO vs ++ List.replicate n none)) hl (fun x hx => by
    obtain ⟨w, h1, h2⟩ := LVs_mem.mp hx
    rcases x with ⟨i, u⟩
    dsimp only at h1 h2
    subst h2
    by_cases hi : i < (lsO vs).length
    · rw [List.getElem?_append_left hi] at h1
      have := lsO_args G vs 0 i w h1
      rwa [Nat.zero_add] at this
    · rw [List.getElem?_append_right (by omega)] at h1
      have h3 := List.mem_of_getElem? h1
      cases (List.eq_of_mem_replicate h3))
  refine k p l e s m _ below meth c G s.heap [] _ ⟨B.exec, B.bytes, hml, B.returns, B.notSynchronized, hown, fun w hw => hts w (List.mem_cons_of_mem _ hw), hK⟩ ⟨hP, hD, va_S.rf⟩ ⟨fun v hv => ?_, fun w hw => ?_, hσ⟩ hl2
  · rcases List.mem_append.mp hv with h | h
    · exact hvs v (lsO_mem vs v h)
    · have h2 := List.eq_of_mem_replicate h
      cases h2
  · cases hw
end Calls2
end
