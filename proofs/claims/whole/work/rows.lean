section
-- ===== PART A: goes FIRST, ahead of the names: the tables' words, and 'selects' of the private methods out of them =====
/-- a private method of a class that the tables say can be made, by its rows of tables_1 -/
def lw_okq (q : MethodName × Nat) : Prop := (q.1.cls ≠ "java/lang/invoke/MethodHandle" ∧ q.1.cls ≠ "java/lang/invoke/VarHandle") ∧ Cond.instantiable q.1.cls q.2 ∈ tables_1 ∧ Cond.privateMethod q.1 ∈ tables_1 ∧ Cond.instanceMethod q.1 ∈ tables_1
theorem lw_p0 : lw_okq (⟨"PrettyShapes", "readDoc", "()V"⟩, 10) := ⟨⟨by decide +kernel, by decide +kernel⟩, List.mem_of_getElem? (i := 12) (by decide +kernel), List.mem_of_getElem? (i := 262) (by decide +kernel), List.mem_of_getElem? (i := 263) (by decide +kernel)⟩
theorem lw_p1 : lw_okq (⟨"PrettyShapes$Doc", "goesOn", "(II)Z"⟩, 13) := ⟨⟨by decide +kernel, by decide +kernel⟩, List.mem_of_getElem? (i := 20) (by decide +kernel), List.mem_of_getElem? (i := 270) (by decide +kernel), List.mem_of_getElem? (i := 271) (by decide +kernel)⟩
theorem lw_p2 : lw_okq (⟨"PrettyShapes$Doc", "takesFigure", "(I)Z"⟩, 13) := ⟨⟨by decide +kernel, by decide +kernel⟩, List.mem_of_getElem? (i := 20) (by decide +kernel), List.mem_of_getElem? (i := 278) (by decide +kernel), List.mem_of_getElem? (i := 279) (by decide +kernel)⟩
theorem lw_p3 : lw_okq (⟨"PrettyShapes$Doc", "begin", "(III)V"⟩, 13) := ⟨⟨by decide +kernel, by decide +kernel⟩, List.mem_of_getElem? (i := 20) (by decide +kernel), List.mem_of_getElem? (i := 285) (by decide +kernel), List.mem_of_getElem? (i := 286) (by decide +kernel)⟩
theorem lw_p4 : lw_okq (⟨"PrettyShapes$Doc", "hangBelowOpen", "(I)V"⟩, 13) := ⟨⟨by decide +kernel, by decide +kernel⟩, List.mem_of_getElem? (i := 20) (by decide +kernel), List.mem_of_getElem? (i := 289) (by decide +kernel), List.mem_of_getElem? (i := 290) (by decide +kernel)⟩
theorem lw_p5 : lw_okq (⟨"PrettyShapes$Doc", "closeFull", "()V"⟩, 13) := ⟨⟨by decide +kernel, by decide +kernel⟩, List.mem_of_getElem? (i := 20) (by decide +kernel), List.mem_of_getElem? (i := 293) (by decide +kernel), List.mem_of_getElem? (i := 294) (by decide +kernel)⟩
theorem lw_p6 : lw_okq (⟨"PrettyShapes$Doc", "hasTwo", "(I)Z"⟩, 13) := ⟨⟨by decide +kernel, by decide +kernel⟩, List.mem_of_getElem? (i := 20) (by decide +kernel), List.mem_of_getElem? (i := 297) (by decide +kernel), List.mem_of_getElem? (i := 298) (by decide +kernel)⟩
theorem lw_p7 : lw_okq (⟨"PrettyShapes$Doc", "measure", "()V"⟩, 13) := ⟨⟨by decide +kernel, by decide +kernel⟩, List.mem_of_getElem? (i := 20) (by decide +kernel), List.mem_of_getElem? (i := 301) (by decide +kernel), List.mem_of_getElem? (i := 302) (by decide +kernel)⟩
theorem lw_p8 : lw_okq (⟨"PrettyShapes$Doc", "sizeBelow", "(I)I"⟩, 13) := ⟨⟨by decide +kernel, by decide +kernel⟩, List.mem_of_getElem? (i := 20) (by decide +kernel), List.mem_of_getElem? (i := 305) (by decide +kernel), List.mem_of_getElem? (i := 306) (by decide +kernel)⟩
theorem lw_p9 : lw_okq (⟨"PrettyShapes$Ways", "shapeOne", "(LPrettyShapes$Doc;II)V"⟩, 7) := ⟨⟨by decide +kernel, by decide +kernel⟩, List.mem_of_getElem? (i := 141) (by decide +kernel), List.mem_of_getElem? (i := 317) (by decide +kernel), List.mem_of_getElem? (i := 318) (by decide +kernel)⟩
theorem lw_p10 : lw_okq (⟨"PrettyShapes$Ways", "stands", "(I)Z"⟩, 7) := ⟨⟨by decide +kernel, by decide +kernel⟩, List.mem_of_getElem? (i := 141) (by decide +kernel), List.mem_of_getElem? (i := 338) (by decide +kernel), List.mem_of_getElem? (i := 339) (by decide +kernel)⟩
theorem lw_p11 : lw_okq (⟨"PrettyShapes$Ways", "findLines", "()V"⟩, 7) := ⟨⟨by decide +kernel, by decide +kernel⟩, List.mem_of_getElem? (i := 141) (by decide +kernel), List.mem_of_getElem? (i := 351) (by decide +kernel), List.mem_of_getElem? (i := 352) (by decide +kernel)⟩
theorem lw_p12 : lw_okq (⟨"PrettyShapes$Ways", "findShrinks", "()V"⟩, 7) := ⟨⟨by decide +kernel, by decide +kernel⟩, List.mem_of_getElem? (i := 141) (by decide +kernel), List.mem_of_getElem? (i := 355) (by decide +kernel), List.mem_of_getElem? (i := 356) (by decide +kernel)⟩
theorem lw_p13 : lw_okq (⟨"PrettyShapes", "chooseBest", "()V"⟩, 10) := ⟨⟨by decide +kernel, by decide +kernel⟩, List.mem_of_getElem? (i := 12) (by decide +kernel), List.mem_of_getElem? (i := 359) (by decide +kernel), List.mem_of_getElem? (i := 360) (by decide +kernel)⟩
theorem lw_p14 : lw_okq (⟨"PrettyShapes$Frontiers", "tryLast", "(II)V"⟩, 4) := ⟨⟨by decide +kernel, by decide +kernel⟩, List.mem_of_getElem? (i := 90) (by decide +kernel), List.mem_of_getElem? (i := 371) (by decide +kernel), List.mem_of_getElem? (i := 372) (by decide +kernel)⟩
theorem lw_p15 : lw_okq (⟨"PrettyShapes$Frontiers", "trialPlace", "(I)I"⟩, 4) := ⟨⟨by decide +kernel, by decide +kernel⟩, List.mem_of_getElem? (i := 90) (by decide +kernel), List.mem_of_getElem? (i := 375) (by decide +kernel), List.mem_of_getElem? (i := 376) (by decide +kernel)⟩
def lw_privs_1 : List (MethodName × Nat) := [(⟨"PrettyShapes", "readDoc", "()V"⟩, 10), (⟨"PrettyShapes$Doc", "goesOn", "(II)Z"⟩, 13), (⟨"PrettyShapes$Doc", "takesFigure", "(I)Z"⟩, 13), (⟨"PrettyShapes$Doc", "begin", "(III)V"⟩, 13), (⟨"PrettyShapes$Doc", "hangBelowOpen", "(I)V"⟩, 13), (⟨"PrettyShapes$Doc", "closeFull", "()V"⟩, 13), (⟨"PrettyShapes$Doc", "hasTwo", "(I)Z"⟩, 13), (⟨"PrettyShapes$Doc", "measure", "()V"⟩, 13), (⟨"PrettyShapes$Doc", "sizeBelow", "(I)I"⟩, 13), (⟨"PrettyShapes$Ways", "shapeOne", "(LPrettyShapes$Doc;II)V"⟩, 7), (⟨"PrettyShapes$Ways", "stands", "(I)Z"⟩, 7), (⟨"PrettyShapes$Ways", "findLines", "()V"⟩, 7), (⟨"PrettyShapes$Ways", "findShrinks", "()V"⟩, 7), (⟨"PrettyShapes", "chooseBest", "()V"⟩, 10), (⟨"PrettyShapes$Frontiers", "tryLast", "(II)V"⟩, 4), (⟨"PrettyShapes$Frontiers", "trialPlace", "(I)I"⟩, 4)]
theorem lw_r1 : ∀ q ∈ lw_privs_1, lw_okq q := List.forall_mem_cons.mpr ⟨lw_p0, List.forall_mem_cons.mpr ⟨lw_p1, List.forall_mem_cons.mpr ⟨lw_p2, List.forall_mem_cons.mpr ⟨lw_p3, List.forall_mem_cons.mpr ⟨lw_p4, List.forall_mem_cons.mpr ⟨lw_p5, List.forall_mem_cons.mpr ⟨lw_p6, List.forall_mem_cons.mpr ⟨lw_p7, List.forall_mem_cons.mpr ⟨lw_p8, List.forall_mem_cons.mpr ⟨lw_p9, List.forall_mem_cons.mpr ⟨lw_p10, List.forall_mem_cons.mpr ⟨lw_p11, List.forall_mem_cons.mpr ⟨lw_p12, List.forall_mem_cons.mpr ⟨lw_p13, List.forall_mem_cons.mpr ⟨lw_p14, List.forall_mem_cons.mpr ⟨lw_p15, fun _ h => absurd h List.not_mem_nil⟩⟩⟩⟩⟩⟩⟩⟩⟩⟩⟩⟩⟩⟩⟩⟩
theorem lw_p16 : lw_okq (⟨"PrettyShapes$Frontiers", "tryEach", "(IIII)V"⟩, 4) := ⟨⟨by decide +kernel, by decide +kernel⟩, List.mem_of_getElem? (i := 90) (by decide +kernel), List.mem_of_getElem? (i := 385) (by decide +kernel), List.mem_of_getElem? (i := 386) (by decide +kernel)⟩
theorem lw_p17 : lw_okq (⟨"PrettyShapes$Frontiers", "tryPairs", "(LPrettyShapes$Doc;II)V"⟩, 4) := ⟨⟨by decide +kernel, by decide +kernel⟩, List.mem_of_getElem? (i := 90) (by decide +kernel), List.mem_of_getElem? (i := 393) (by decide +kernel), List.mem_of_getElem? (i := 394) (by decide +kernel)⟩
theorem lw_p18 : lw_okq (⟨"PrettyShapes$Frontiers", "tryAlone", "(LPrettyShapes$Doc;II)V"⟩, 4) := ⟨⟨by decide +kernel, by decide +kernel⟩, List.mem_of_getElem? (i := 90) (by decide +kernel), List.mem_of_getElem? (i := 398) (by decide +kernel), List.mem_of_getElem? (i := 399) (by decide +kernel)⟩
theorem lw_p19 : lw_okq (⟨"PrettyShapes", "keepBest", "(I)V"⟩, 10) := ⟨⟨by decide +kernel, by decide +kernel⟩, List.mem_of_getElem? (i := 12) (by decide +kernel), List.mem_of_getElem? (i := 423) (by decide +kernel), List.mem_of_getElem? (i := 424) (by decide +kernel)⟩
theorem lw_p20 : lw_okq (⟨"PrettyShapes$Setting", "putAt", "(III)V"⟩, 6) := ⟨⟨by decide +kernel, by decide +kernel⟩, List.mem_of_getElem? (i := 174) (by decide +kernel), List.mem_of_getElem? (i := 434) (by decide +kernel), List.mem_of_getElem? (i := 435) (by decide +kernel)⟩
theorem lw_p21 : lw_okq (⟨"PrettyShapes$Setting", "placeBelow", "(LPrettyShapes$Doc;LPrettyShapes$Shapes;II)V"⟩, 6) := ⟨⟨by decide +kernel, by decide +kernel⟩, List.mem_of_getElem? (i := 174) (by decide +kernel), List.mem_of_getElem? (i := 440) (by decide +kernel), List.mem_of_getElem? (i := 441) (by decide +kernel)⟩
theorem lw_p22 : lw_okq (⟨"PrettyShapes", "sheetOf", "(I)LPrettyShapes$Sheet;"⟩, 10) := ⟨⟨by decide +kernel, by decide +kernel⟩, List.mem_of_getElem? (i := 12) (by decide +kernel), List.mem_of_getElem? (i := 464) (by decide +kernel), List.mem_of_getElem? (i := 465) (by decide +kernel)⟩
theorem lw_p23 : lw_okq (⟨"PrettyShapes", "found", "(I)I"⟩, 10) := ⟨⟨by decide +kernel, by decide +kernel⟩, List.mem_of_getElem? (i := 12) (by decide +kernel), List.mem_of_getElem? (i := 472) (by decide +kernel), List.mem_of_getElem? (i := 473) (by decide +kernel)⟩
theorem lw_p24 : lw_okq (⟨"PrettyShapes$Setting", "isWordOn", "(II)Z"⟩, 6) := ⟨⟨by decide +kernel, by decide +kernel⟩, List.mem_of_getElem? (i := 174) (by decide +kernel), List.mem_of_getElem? (i := 506) (by decide +kernel), List.mem_of_getElem? (i := 507) (by decide +kernel)⟩
theorem lw_p25 : lw_okq (⟨"PrettyShapes$Ways", "isAny", "(III)Z"⟩, 7) := ⟨⟨by decide +kernel, by decide +kernel⟩, List.mem_of_getElem? (i := 141) (by decide +kernel), List.mem_of_getElem? (i := 532) (by decide +kernel), List.mem_of_getElem? (i := 533) (by decide +kernel)⟩
theorem lw_p26 : lw_okq (⟨"PrettyShapes$Ways", "fits", "(II)Z"⟩, 7) := ⟨⟨by decide +kernel, by decide +kernel⟩, List.mem_of_getElem? (i := 141) (by decide +kernel), List.mem_of_getElem? (i := 536) (by decide +kernel), List.mem_of_getElem? (i := 537) (by decide +kernel)⟩
theorem lw_p27 : lw_okq (⟨"PrettyShapes", "digestParts", "(J)J"⟩, 10) := ⟨⟨by decide +kernel, by decide +kernel⟩, List.mem_of_getElem? (i := 12) (by decide +kernel), List.mem_of_getElem? (i := 628) (by decide +kernel), List.mem_of_getElem? (i := 629) (by decide +kernel)⟩
theorem lw_p28 : lw_okq (⟨"PrettyShapes", "digestShape", "(JII)J"⟩, 10) := ⟨⟨by decide +kernel, by decide +kernel⟩, List.mem_of_getElem? (i := 12) (by decide +kernel), List.mem_of_getElem? (i := 633) (by decide +kernel), List.mem_of_getElem? (i := 634) (by decide +kernel)⟩
theorem lw_p29 : lw_okq (⟨"PrettyShapes", "digestBest", "(J)J"⟩, 10) := ⟨⟨by decide +kernel, by decide +kernel⟩, List.mem_of_getElem? (i := 12) (by decide +kernel), List.mem_of_getElem? (i := 638) (by decide +kernel), List.mem_of_getElem? (i := 639) (by decide +kernel)⟩
theorem lw_p30 : lw_okq (⟨"PrettyShapes", "digestWays", "(J)J"⟩, 10) := ⟨⟨by decide +kernel, by decide +kernel⟩, List.mem_of_getElem? (i := 12) (by decide +kernel), List.mem_of_getElem? (i := 643) (by decide +kernel), List.mem_of_getElem? (i := 644) (by decide +kernel)⟩
theorem lw_p31 : lw_okq (⟨"PrettyShapesModel", "meets", "(I)I"⟩, 31) := ⟨⟨by decide +kernel, by decide +kernel⟩, List.mem_of_getElem? (i := 652) (by decide +kernel), List.mem_of_getElem? (i := 778) (by decide +kernel), List.mem_of_getElem? (i := 779) (by decide +kernel)⟩
def lw_privs_2 : List (MethodName × Nat) := [(⟨"PrettyShapes$Frontiers", "tryEach", "(IIII)V"⟩, 4), (⟨"PrettyShapes$Frontiers", "tryPairs", "(LPrettyShapes$Doc;II)V"⟩, 4), (⟨"PrettyShapes$Frontiers", "tryAlone", "(LPrettyShapes$Doc;II)V"⟩, 4), (⟨"PrettyShapes", "keepBest", "(I)V"⟩, 10), (⟨"PrettyShapes$Setting", "putAt", "(III)V"⟩, 6), (⟨"PrettyShapes$Setting", "placeBelow", "(LPrettyShapes$Doc;LPrettyShapes$Shapes;II)V"⟩, 6), (⟨"PrettyShapes", "sheetOf", "(I)LPrettyShapes$Sheet;"⟩, 10), (⟨"PrettyShapes", "found", "(I)I"⟩, 10), (⟨"PrettyShapes$Setting", "isWordOn", "(II)Z"⟩, 6), (⟨"PrettyShapes$Ways", "isAny", "(III)Z"⟩, 7), (⟨"PrettyShapes$Ways", "fits", "(II)Z"⟩, 7), (⟨"PrettyShapes", "digestParts", "(J)J"⟩, 10), (⟨"PrettyShapes", "digestShape", "(JII)J"⟩, 10), (⟨"PrettyShapes", "digestBest", "(J)J"⟩, 10), (⟨"PrettyShapes", "digestWays", "(J)J"⟩, 10), (⟨"PrettyShapesModel", "meets", "(I)I"⟩, 31)]
theorem lw_r2 : ∀ q ∈ lw_privs_2, lw_okq q := List.forall_mem_cons.mpr ⟨lw_p16, List.forall_mem_cons.mpr ⟨lw_p17, List.forall_mem_cons.mpr ⟨lw_p18, List.forall_mem_cons.mpr ⟨lw_p19, List.forall_mem_cons.mpr ⟨lw_p20, List.forall_mem_cons.mpr ⟨lw_p21, List.forall_mem_cons.mpr ⟨lw_p22, List.forall_mem_cons.mpr ⟨lw_p23, List.forall_mem_cons.mpr ⟨lw_p24, List.forall_mem_cons.mpr ⟨lw_p25, List.forall_mem_cons.mpr ⟨lw_p26, List.forall_mem_cons.mpr ⟨lw_p27, List.forall_mem_cons.mpr ⟨lw_p28, List.forall_mem_cons.mpr ⟨lw_p29, List.forall_mem_cons.mpr ⟨lw_p30, List.forall_mem_cons.mpr ⟨lw_p31, fun _ h => absurd h List.not_mem_nil⟩⟩⟩⟩⟩⟩⟩⟩⟩⟩⟩⟩⟩⟩⟩⟩
theorem lw_p32 : lw_okq (⟨"PrettyShapesModel", "faultOf", "()I"⟩, 31) := ⟨⟨by decide +kernel, by decide +kernel⟩, List.mem_of_getElem? (i := 652) (by decide +kernel), List.mem_of_getElem? (i := 787) (by decide +kernel), List.mem_of_getElem? (i := 788) (by decide +kernel)⟩
theorem lw_p33 : lw_okq (⟨"PrettyShapesModel", "reads", "()V"⟩, 31) := ⟨⟨by decide +kernel, by decide +kernel⟩, List.mem_of_getElem? (i := 652) (by decide +kernel), List.mem_of_getElem? (i := 791) (by decide +kernel), List.mem_of_getElem? (i := 792) (by decide +kernel)⟩
theorem lw_p34 : lw_okq (⟨"PrettyShapesModel", "readsText", "()I"⟩, 31) := ⟨⟨by decide +kernel, by decide +kernel⟩, List.mem_of_getElem? (i := 652) (by decide +kernel), List.mem_of_getElem? (i := 795) (by decide +kernel), List.mem_of_getElem? (i := 796) (by decide +kernel)⟩
theorem lw_p35 : lw_okq (⟨"PrettyShapesModel", "isPart", "(I)Z"⟩, 31) := ⟨⟨by decide +kernel, by decide +kernel⟩, List.mem_of_getElem? (i := 652) (by decide +kernel), List.mem_of_getElem? (i := 809) (by decide +kernel), List.mem_of_getElem? (i := 810) (by decide +kernel)⟩
theorem lw_p36 : lw_okq (⟨"PrettyShapesModel", "partOf", "(II)I"⟩, 31) := ⟨⟨by decide +kernel, by decide +kernel⟩, List.mem_of_getElem? (i := 652) (by decide +kernel), List.mem_of_getElem? (i := 813) (by decide +kernel), List.mem_of_getElem? (i := 814) (by decide +kernel)⟩
theorem lw_p37 : lw_okq (⟨"PrettyShapesModel", "manyOf", "(I)I"⟩, 31) := ⟨⟨by decide +kernel, by decide +kernel⟩, List.mem_of_getElem? (i := 652) (by decide +kernel), List.mem_of_getElem? (i := 817) (by decide +kernel), List.mem_of_getElem? (i := 818) (by decide +kernel)⟩
theorem lw_p38 : lw_okq (⟨"PrettyShapesModel", "frontsTold", "()V"⟩, 31) := ⟨⟨by decide +kernel, by decide +kernel⟩, List.mem_of_getElem? (i := 652) (by decide +kernel), List.mem_of_getElem? (i := 821) (by decide +kernel), List.mem_of_getElem? (i := 822) (by decide +kernel)⟩
theorem lw_p39 : lw_okq (⟨"PrettyShapesModel", "findsFronts", "(I)V"⟩, 31) := ⟨⟨by decide +kernel, by decide +kernel⟩, List.mem_of_getElem? (i := 652) (by decide +kernel), List.mem_of_getElem? (i := 825) (by decide +kernel), List.mem_of_getElem? (i := 826) (by decide +kernel)⟩
theorem lw_p40 : lw_okq (⟨"PrettyShapesModel", "tries", "(II)V"⟩, 31) := ⟨⟨by decide +kernel, by decide +kernel⟩, List.mem_of_getElem? (i := 652) (by decide +kernel), List.mem_of_getElem? (i := 832) (by decide +kernel), List.mem_of_getElem? (i := 833) (by decide +kernel)⟩
theorem lw_p41 : lw_okq (⟨"PrettyShapesModel", "triesChoice", "(I)V"⟩, 31) := ⟨⟨by decide +kernel, by decide +kernel⟩, List.mem_of_getElem? (i := 652) (by decide +kernel), List.mem_of_getElem? (i := 848) (by decide +kernel), List.mem_of_getElem? (i := 849) (by decide +kernel)⟩
theorem lw_p42 : lw_okq (⟨"PrettyShapesModel", "triesBoth", "(I)V"⟩, 31) := ⟨⟨by decide +kernel, by decide +kernel⟩, List.mem_of_getElem? (i := 652) (by decide +kernel), List.mem_of_getElem? (i := 852) (by decide +kernel), List.mem_of_getElem? (i := 853) (by decide +kernel)⟩
theorem lw_p43 : lw_okq (⟨"PrettyShapesModel", "frontierOf", "(III)I"⟩, 31) := ⟨⟨by decide +kernel, by decide +kernel⟩, List.mem_of_getElem? (i := 652) (by decide +kernel), List.mem_of_getElem? (i := 872) (by decide +kernel), List.mem_of_getElem? (i := 873) (by decide +kernel)⟩
theorem lw_p44 : lw_okq (⟨"PrettyShapesModel", "triedOf", "(I)I"⟩, 31) := ⟨⟨by decide +kernel, by decide +kernel⟩, List.mem_of_getElem? (i := 652) (by decide +kernel), List.mem_of_getElem? (i := 883) (by decide +kernel), List.mem_of_getElem? (i := 884) (by decide +kernel)⟩
theorem lw_p45 : lw_okq (⟨"PrettyShapesModel", "bestOf", "(I)I"⟩, 31) := ⟨⟨by decide +kernel, by decide +kernel⟩, List.mem_of_getElem? (i := 652) (by decide +kernel), List.mem_of_getElem? (i := 891) (by decide +kernel), List.mem_of_getElem? (i := 892) (by decide +kernel)⟩
theorem lw_p46 : lw_okq (⟨"PrettyShapesModel", "findsBest", "()V"⟩, 31) := ⟨⟨by decide +kernel, by decide +kernel⟩, List.mem_of_getElem? (i := 652) (by decide +kernel), List.mem_of_getElem? (i := 895) (by decide +kernel), List.mem_of_getElem? (i := 896) (by decide +kernel)⟩
theorem lw_p47 : lw_okq (⟨"PrettyShapesModel", "isAhead", "(II)Z"⟩, 31) := ⟨⟨by decide +kernel, by decide +kernel⟩, List.mem_of_getElem? (i := 652) (by decide +kernel), List.mem_of_getElem? (i := 899) (by decide +kernel), List.mem_of_getElem? (i := 900) (by decide +kernel)⟩
def lw_privs_3 : List (MethodName × Nat) := [(⟨"PrettyShapesModel", "faultOf", "()I"⟩, 31), (⟨"PrettyShapesModel", "reads", "()V"⟩, 31), (⟨"PrettyShapesModel", "readsText", "()I"⟩, 31), (⟨"PrettyShapesModel", "isPart", "(I)Z"⟩, 31), (⟨"PrettyShapesModel", "partOf", "(II)I"⟩, 31), (⟨"PrettyShapesModel", "manyOf", "(I)I"⟩, 31), (⟨"PrettyShapesModel", "frontsTold", "()V"⟩, 31), (⟨"PrettyShapesModel", "findsFronts", "(I)V"⟩, 31), (⟨"PrettyShapesModel", "tries", "(II)V"⟩, 31), (⟨"PrettyShapesModel", "triesChoice", "(I)V"⟩, 31), (⟨"PrettyShapesModel", "triesBoth", "(I)V"⟩, 31), (⟨"PrettyShapesModel", "frontierOf", "(III)I"⟩, 31), (⟨"PrettyShapesModel", "triedOf", "(I)I"⟩, 31), (⟨"PrettyShapesModel", "bestOf", "(I)I"⟩, 31), (⟨"PrettyShapesModel", "findsBest", "()V"⟩, 31), (⟨"PrettyShapesModel", "isAhead", "(II)Z"⟩, 31)]
theorem lw_r3 : ∀ q ∈ lw_privs_3, lw_okq q := List.forall_mem_cons.mpr ⟨lw_p32, List.forall_mem_cons.mpr ⟨lw_p33, List.forall_mem_cons.mpr ⟨lw_p34, List.forall_mem_cons.mpr ⟨lw_p35, List.forall_mem_cons.mpr ⟨lw_p36, List.forall_mem_cons.mpr ⟨lw_p37, List.forall_mem_cons.mpr ⟨lw_p38, List.forall_mem_cons.mpr ⟨lw_p39, List.forall_mem_cons.mpr ⟨lw_p40, List.forall_mem_cons.mpr ⟨lw_p41, List.forall_mem_cons.mpr ⟨lw_p42, List.forall_mem_cons.mpr ⟨lw_p43, List.forall_mem_cons.mpr ⟨lw_p44, List.forall_mem_cons.mpr ⟨lw_p45, List.forall_mem_cons.mpr ⟨lw_p46, List.forall_mem_cons.mpr ⟨lw_p47, fun _ h => absurd h List.not_mem_nil⟩⟩⟩⟩⟩⟩⟩⟩⟩⟩⟩⟩⟩⟩⟩⟩
theorem lw_p48 : lw_okq (⟨"PrettyShapesModel", "wayFor", "(II)I"⟩, 31) := ⟨⟨by decide +kernel, by decide +kernel⟩, List.mem_of_getElem? (i := 652) (by decide +kernel), List.mem_of_getElem? (i := 907) (by decide +kernel), List.mem_of_getElem? (i := 908) (by decide +kernel)⟩
theorem lw_p49 : lw_okq (⟨"PrettyShapesModel", "shapeOf", "(I)I"⟩, 31) := ⟨⟨by decide +kernel, by decide +kernel⟩, List.mem_of_getElem? (i := 652) (by decide +kernel), List.mem_of_getElem? (i := 911) (by decide +kernel), List.mem_of_getElem? (i := 912) (by decide +kernel)⟩
theorem lw_p50 : lw_okq (⟨"PrettyShapesModel", "shapeBy", "(II)I"⟩, 31) := ⟨⟨by decide +kernel, by decide +kernel⟩, List.mem_of_getElem? (i := 652) (by decide +kernel), List.mem_of_getElem? (i := 915) (by decide +kernel), List.mem_of_getElem? (i := 916) (by decide +kernel)⟩
theorem lw_p51 : lw_okq (⟨"PrettyShapesModel", "lineOf", "(II)I"⟩, 31) := ⟨⟨by decide +kernel, by decide +kernel⟩, List.mem_of_getElem? (i := 652) (by decide +kernel), List.mem_of_getElem? (i := 926) (by decide +kernel), List.mem_of_getElem? (i := 927) (by decide +kernel)⟩
theorem lw_p52 : lw_okq (⟨"PrettyShapesModel", "sets", "()V"⟩, 31) := ⟨⟨by decide +kernel, by decide +kernel⟩, List.mem_of_getElem? (i := 652) (by decide +kernel), List.mem_of_getElem? (i := 930) (by decide +kernel), List.mem_of_getElem? (i := 931) (by decide +kernel)⟩
theorem lw_p53 : lw_okq (⟨"PrettyShapesModel", "setsBelow", "(I)V"⟩, 31) := ⟨⟨by decide +kernel, by decide +kernel⟩, List.mem_of_getElem? (i := 652) (by decide +kernel), List.mem_of_getElem? (i := 934) (by decide +kernel), List.mem_of_getElem? (i := 935) (by decide +kernel)⟩
theorem lw_p54 : lw_okq (⟨"PrettyShapesModel", "puts", "(III)V"⟩, 31) := ⟨⟨by decide +kernel, by decide +kernel⟩, List.mem_of_getElem? (i := 652) (by decide +kernel), List.mem_of_getElem? (i := 938) (by decide +kernel), List.mem_of_getElem? (i := 939) (by decide +kernel)⟩
theorem lw_p55 : lw_okq (⟨"PrettyShapesModel", "columnsIn", "(I)I"⟩, 31) := ⟨⟨by decide +kernel, by decide +kernel⟩, List.mem_of_getElem? (i := 652) (by decide +kernel), List.mem_of_getElem? (i := 942) (by decide +kernel), List.mem_of_getElem? (i := 943) (by decide +kernel)⟩
theorem lw_p56 : lw_okq (⟨"PrettyShapesModel", "byteIn", "(II)I"⟩, 31) := ⟨⟨by decide +kernel, by decide +kernel⟩, List.mem_of_getElem? (i := 652) (by decide +kernel), List.mem_of_getElem? (i := 946) (by decide +kernel), List.mem_of_getElem? (i := 947) (by decide +kernel)⟩
theorem lw_p57 : lw_okq (⟨"PrettyShapesModel", "hasteOf", "(I)I"⟩, 31) := ⟨⟨by decide +kernel, by decide +kernel⟩, List.mem_of_getElem? (i := 652) (by decide +kernel), List.mem_of_getElem? (i := 954) (by decide +kernel), List.mem_of_getElem? (i := 955) (by decide +kernel)⟩
theorem lw_p58 : lw_okq (⟨"PrettyShapesModel", "findsWays", "()V"⟩, 31) := ⟨⟨by decide +kernel, by decide +kernel⟩, List.mem_of_getElem? (i := 652) (by decide +kernel), List.mem_of_getElem? (i := 958) (by decide +kernel), List.mem_of_getElem? (i := 959) (by decide +kernel)⟩
theorem lw_p59 : lw_okq (⟨"PrettyShapesModel", "isAny", "(II)Z"⟩, 31) := ⟨⟨by decide +kernel, by decide +kernel⟩, List.mem_of_getElem? (i := 652) (by decide +kernel), List.mem_of_getElem? (i := 962) (by decide +kernel), List.mem_of_getElem? (i := 963) (by decide +kernel)⟩
theorem lw_p60 : lw_okq (⟨"PrettyShapesModel", "isAllowed", "(II)Z"⟩, 31) := ⟨⟨by decide +kernel, by decide +kernel⟩, List.mem_of_getElem? (i := 652) (by decide +kernel), List.mem_of_getElem? (i := 966) (by decide +kernel), List.mem_of_getElem? (i := 967) (by decide +kernel)⟩
theorem lw_p61 : lw_okq (⟨"PrettyShapesModel", "enoughOf", "()I"⟩, 31) := ⟨⟨by decide +kernel, by decide +kernel⟩, List.mem_of_getElem? (i := 652) (by decide +kernel), List.mem_of_getElem? (i := 974) (by decide +kernel), List.mem_of_getElem? (i := 975) (by decide +kernel)⟩
theorem lw_p62 : lw_okq (⟨"PrettyShapesModel", "leastMost", "()I"⟩, 31) := ⟨⟨by decide +kernel, by decide +kernel⟩, List.mem_of_getElem? (i := 652) (by decide +kernel), List.mem_of_getElem? (i := 978) (by decide +kernel), List.mem_of_getElem? (i := 979) (by decide +kernel)⟩
theorem lw_p63 : lw_okq (⟨"PrettyShapesModel", "shrinksOf", "(I)I"⟩, 31) := ⟨⟨by decide +kernel, by decide +kernel⟩, List.mem_of_getElem? (i := 652) (by decide +kernel), List.mem_of_getElem? (i := 986) (by decide +kernel), List.mem_of_getElem? (i := 987) (by decide +kernel)⟩
def lw_privs_4 : List (MethodName × Nat) := [(⟨"PrettyShapesModel", "wayFor", "(II)I"⟩, 31), (⟨"PrettyShapesModel", "shapeOf", "(I)I"⟩, 31), (⟨"PrettyShapesModel", "shapeBy", "(II)I"⟩, 31), (⟨"PrettyShapesModel", "lineOf", "(II)I"⟩, 31), (⟨"PrettyShapesModel", "sets", "()V"⟩, 31), (⟨"PrettyShapesModel", "setsBelow", "(I)V"⟩, 31), (⟨"PrettyShapesModel", "puts", "(III)V"⟩, 31), (⟨"PrettyShapesModel", "columnsIn", "(I)I"⟩, 31), (⟨"PrettyShapesModel", "byteIn", "(II)I"⟩, 31), (⟨"PrettyShapesModel", "hasteOf", "(I)I"⟩, 31), (⟨"PrettyShapesModel", "findsWays", "()V"⟩, 31), (⟨"PrettyShapesModel", "isAny", "(II)Z"⟩, 31), (⟨"PrettyShapesModel", "isAllowed", "(II)Z"⟩, 31), (⟨"PrettyShapesModel", "enoughOf", "()I"⟩, 31), (⟨"PrettyShapesModel", "leastMost", "()I"⟩, 31), (⟨"PrettyShapesModel", "shrinksOf", "(I)I"⟩, 31)]
theorem lw_r4 : ∀ q ∈ lw_privs_4, lw_okq q := List.forall_mem_cons.mpr ⟨lw_p48, List.forall_mem_cons.mpr ⟨lw_p49, List.forall_mem_cons.mpr ⟨lw_p50, List.forall_mem_cons.mpr ⟨lw_p51, List.forall_mem_cons.mpr ⟨lw_p52, List.forall_mem_cons.mpr ⟨lw_p53, List.forall_mem_cons.mpr ⟨lw_p54, List.forall_mem_cons.mpr ⟨lw_p55, List.forall_mem_cons.mpr ⟨lw_p56, List.forall_mem_cons.mpr ⟨lw_p57, List.forall_mem_cons.mpr ⟨lw_p58, List.forall_mem_cons.mpr ⟨lw_p59, List.forall_mem_cons.mpr ⟨lw_p60, List.forall_mem_cons.mpr ⟨lw_p61, List.forall_mem_cons.mpr ⟨lw_p62, List.forall_mem_cons.mpr ⟨lw_p63, fun _ h => absurd h List.not_mem_nil⟩⟩⟩⟩⟩⟩⟩⟩⟩⟩⟩⟩⟩⟩⟩⟩
theorem lw_p64 : lw_okq (⟨"PrettyShapesModel", "fewest", "(II)I"⟩, 31) := ⟨⟨by decide +kernel, by decide +kernel⟩, List.mem_of_getElem? (i := 652) (by decide +kernel), List.mem_of_getElem? (i := 990) (by decide +kernel), List.mem_of_getElem? (i := 991) (by decide +kernel)⟩
theorem lw_p65 : lw_okq (⟨"PrettyShapesModel", "spareOf", "()I"⟩, 31) := ⟨⟨by decide +kernel, by decide +kernel⟩, List.mem_of_getElem? (i := 652) (by decide +kernel), List.mem_of_getElem? (i := 998) (by decide +kernel), List.mem_of_getElem? (i := 999) (by decide +kernel)⟩
theorem lw_p66 : lw_okq (⟨"PrettyShapesModel", "linesWithout", "(I)I"⟩, 31) := ⟨⟨by decide +kernel, by decide +kernel⟩, List.mem_of_getElem? (i := 652) (by decide +kernel), List.mem_of_getElem? (i := 1002) (by decide +kernel), List.mem_of_getElem? (i := 1003) (by decide +kernel)⟩
theorem lw_p67 : lw_okq (⟨"PrettyShapesModel", "leastWithout", "(I)I"⟩, 31) := ⟨⟨by decide +kernel, by decide +kernel⟩, List.mem_of_getElem? (i := 652) (by decide +kernel), List.mem_of_getElem? (i := 1006) (by decide +kernel), List.mem_of_getElem? (i := 1007) (by decide +kernel)⟩
theorem lw_p68 : lw_okq (⟨"PrettyShapesModel", "isOverBy", "(I)Z"⟩, 31) := ⟨⟨by decide +kernel, by decide +kernel⟩, List.mem_of_getElem? (i := 652) (by decide +kernel), List.mem_of_getElem? (i := 1010) (by decide +kernel), List.mem_of_getElem? (i := 1011) (by decide +kernel)⟩
theorem lw_p69 : lw_okq (⟨"PrettyShapesModel", "lacks", "(III)I"⟩, 31) := ⟨⟨by decide +kernel, by decide +kernel⟩, List.mem_of_getElem? (i := 652) (by decide +kernel), List.mem_of_getElem? (i := 1026) (by decide +kernel), List.mem_of_getElem? (i := 1027) (by decide +kernel)⟩
theorem lw_p70 : lw_okq (⟨"PrettyShapesModel", "keep", "(III)V"⟩, 31) := ⟨⟨by decide +kernel, by decide +kernel⟩, List.mem_of_getElem? (i := 652) (by decide +kernel), List.mem_of_getElem? (i := 1030) (by decide +kernel), List.mem_of_getElem? (i := 1031) (by decide +kernel)⟩
theorem lw_p71 : lw_okq (⟨"PrettyShapesModel", "partsOf", "()I"⟩, 31) := ⟨⟨by decide +kernel, by decide +kernel⟩, List.mem_of_getElem? (i := 652) (by decide +kernel), List.mem_of_getElem? (i := 1051) (by decide +kernel), List.mem_of_getElem? (i := 1052) (by decide +kernel)⟩
theorem lw_p72 : lw_okq (⟨"PrettyShapesModel", "choicesOf", "()I"⟩, 31) := ⟨⟨by decide +kernel, by decide +kernel⟩, List.mem_of_getElem? (i := 652) (by decide +kernel), List.mem_of_getElem? (i := 1055) (by decide +kernel), List.mem_of_getElem? (i := 1056) (by decide +kernel)⟩
theorem lw_p73 : lw_okq (⟨"PrettyShapesModel", "wholeOf", "()I"⟩, 31) := ⟨⟨by decide +kernel, by decide +kernel⟩, List.mem_of_getElem? (i := 652) (by decide +kernel), List.mem_of_getElem? (i := 1059) (by decide +kernel), List.mem_of_getElem? (i := 1060) (by decide +kernel)⟩
theorem lw_p74 : lw_okq (⟨"PrettyShapesModel", "partDigest", "(JI)J"⟩, 31) := ⟨⟨by decide +kernel, by decide +kernel⟩, List.mem_of_getElem? (i := 652) (by decide +kernel), List.mem_of_getElem? (i := 1070) (by decide +kernel), List.mem_of_getElem? (i := 1071) (by decide +kernel)⟩
def lw_privs_5 : List (MethodName × Nat) := [(⟨"PrettyShapesModel", "fewest", "(II)I"⟩, 31), (⟨"PrettyShapesModel", "spareOf", "()I"⟩, 31), (⟨"PrettyShapesModel", "linesWithout", "(I)I"⟩, 31), (⟨"PrettyShapesModel", "leastWithout", "(I)I"⟩, 31), (⟨"PrettyShapesModel", "isOverBy", "(I)Z"⟩, 31), (⟨"PrettyShapesModel", "lacks", "(III)I"⟩, 31), (⟨"PrettyShapesModel", "keep", "(III)V"⟩, 31), (⟨"PrettyShapesModel", "partsOf", "()I"⟩, 31), (⟨"PrettyShapesModel", "choicesOf", "()I"⟩, 31), (⟨"PrettyShapesModel", "wholeOf", "()I"⟩, 31), (⟨"PrettyShapesModel", "partDigest", "(JI)J"⟩, 31)]
theorem lw_r5 : ∀ q ∈ lw_privs_5, lw_okq q := List.forall_mem_cons.mpr ⟨lw_p64, List.forall_mem_cons.mpr ⟨lw_p65, List.forall_mem_cons.mpr ⟨lw_p66, List.forall_mem_cons.mpr ⟨lw_p67, List.forall_mem_cons.mpr ⟨lw_p68, List.forall_mem_cons.mpr ⟨lw_p69, List.forall_mem_cons.mpr ⟨lw_p70, List.forall_mem_cons.mpr ⟨lw_p71, List.forall_mem_cons.mpr ⟨lw_p72, List.forall_mem_cons.mpr ⟨lw_p73, List.forall_mem_cons.mpr ⟨lw_p74, fun _ h => absurd h List.not_mem_nil⟩⟩⟩⟩⟩⟩⟩⟩⟩⟩⟩
def lw_privs : List (MethodName × Nat) := lw_privs_1 ++ (lw_privs_2 ++ (lw_privs_3 ++ (lw_privs_4 ++ (lw_privs_5))))
def lw_tbl : List Cond := k2_sels lw_privs ++ tables_1
theorem lw_privs_ok : ∀ q ∈ lw_privs, lw_okq q := by
  show ∀ q ∈ lw_privs_1 ++ (lw_privs_2 ++ (lw_privs_3 ++ (lw_privs_4 ++ (lw_privs_5)))), lw_okq q
  exact List.forall_mem_append.mpr ⟨lw_r1, List.forall_mem_append.mpr ⟨lw_r2, List.forall_mem_append.mpr ⟨lw_r3, List.forall_mem_append.mpr ⟨lw_r4, lw_r5⟩⟩⟩⟩
-- ===== end of PART A; then your names; then what follows =====
end
section
/-! ===== BEGIN words of one list among another's, by their places ===== -/
theorem goodIn_r {big : List Cond} (ws : List Cond) (ps : List Nat) (hp : ws = ps.filterMap (fun i => big[i]?)) (h : ws.all goodWord = true) : GoodIn big ws := by
  intro w hw
  have h1 := List.all_eq_true.mp h w hw
  rw [hp] at hw
  obtain ⟨i, -, hi⟩ := List.mem_filterMap.mp hw
  have hm : w ∈ big := by first | exact List.mem_of_getElem? hi | exact List.getElem?_mem hi
  exact ⟨hm, good_of_word h1⟩
theorem goodIn_app {big a b : List Cond} (ha : GoodIn big a) (hb : GoodIn big b) : GoodIn big (a ++ b) := fun w h => (List.mem_append.mp h).elim (ha w) (hb w)
theorem goodIn_ca {big a b : List Cond} {c : Cond} (ha : GoodIn big (c :: a)) (hb : GoodIn big b) : GoodIn big (c :: (a ++ b)) := fun w h => (List.mem_cons.mp h).elim (fun e => ha w (List.mem_cons.mpr (Or.inl e))) (fun h => (List.mem_append.mp h).elim (fun h => ha w (List.mem_cons.mpr (Or.inr h))) (hb w))
theorem goodIn_sub {big ws : List Cond} (hm : ∀ w ∈ ws, w ∈ big) (h : ws.all goodWord = true) : GoodIn big ws := fun w hw => ⟨hm w hw, good_of_word (List.all_eq_true.mp h w hw)⟩
/-! ===== END ===== -/

/-! ===== BEGIN printed: names, fields, word lists, decode rows ===== -/
def RX0 : String := "PrettyShapes$Doc"
def TX0 : u_T := fun k => match k with
  | 0 => ("PrettyShapes$Doc", "bytes", "[I", true)
  | 1 => ("PrettyShapes$Doc", "kind", "[I", true)
  | 2 => ("PrettyShapes$Doc", "start", "[I", true)
  | 3 => ("PrettyShapes$Doc", "size", "[I", true)
  | 4 => ("PrettyShapes$Doc", "above", "[I", true)
  | 5 => ("PrettyShapes$Doc", "first", "[I", true)
  | 6 => ("PrettyShapes$Doc", "second", "[I", true)
  | 7 => ("PrettyShapes$Doc", "number", "[I", true)
  | 8 => ("PrettyShapes$Doc", "length", "I", false)
  | 9 => ("PrettyShapes$Doc", "parts", "I", false)
  | 10 => ("PrettyShapes$Doc", "choices", "I", false)
  | 11 => ("PrettyShapes$Doc", "fault", "I", false)
  | _ => ("PrettyShapes$Doc", "open", "I", false)
def tyX0 : Nat → FieldType := fun k => match k with
  | 0 => .array .int
  | 1 => .array .int
  | 2 => .array .int
  | 3 => .array .int
  | 4 => .array .int
  | 5 => .array .int
  | 6 => .array .int
  | 7 => .array .int
  | 8 => .int
  | 9 => .int
  | 10 => .int
  | 11 => .int
  | _ => .int
abbrev wsX00 : List Cond := u_ws RX0 TX0 13
theorem nmX0 : ∀ a, a < 13 → ∀ b, b < 13 → a ≠ b → (TX0 a).2.1 ≠ (TX0 b).2.1 := by decide +kernel
theorem tyX0_ok : ∀ k, k < 13 → parseFieldDescriptor (TX0 k).2.2.1 = some (tyX0 k) := by decide +kernel
abbrev cX0_init : ByteArray := prog_2_method_1_code
def yX0_init : MethodName := ⟨RX0, "<init>", "()V"⟩
abbrev cX0_append : ByteArray := prog_2_method_2_code
def yX0_append : MethodName := ⟨RX0, "append", "(I)Z"⟩
abbrev cX0_hasPart : ByteArray := prog_2_method_3_code
def yX0_hasPart : MethodName := ⟨RX0, "hasPart", "(I)Z"⟩
abbrev cX0_parse : ByteArray := prog_2_method_4_code
def yX0_parse : MethodName := ⟨RX0, "parse", "()V"⟩
abbrev cX0_goesOn : ByteArray := prog_2_method_5_code
def yX0_goesOn : MethodName := ⟨RX0, "goesOn", "(II)Z"⟩
abbrev cX0_takesFigure : ByteArray := prog_2_method_6_code
def yX0_takesFigure : MethodName := ⟨RX0, "takesFigure", "(I)Z"⟩
abbrev cX0_kindOf : ByteArray := prog_2_method_7_code
def yX0_kindOf : MethodName := ⟨RX0, "kindOf", "(I)I"⟩
abbrev cX0_begin : ByteArray := prog_2_method_8_code
def yX0_begin : MethodName := ⟨RX0, "begin", "(III)V"⟩
abbrev cX0_hangBelowOpen : ByteArray := prog_2_method_9_code
def yX0_hangBelowOpen : MethodName := ⟨RX0, "hangBelowOpen", "(I)V"⟩
abbrev cX0_closeFull : ByteArray := prog_2_method_10_code
def yX0_closeFull : MethodName := ⟨RX0, "closeFull", "()V"⟩
abbrev cX0_hasTwo : ByteArray := prog_2_method_11_code
def yX0_hasTwo : MethodName := ⟨RX0, "hasTwo", "(I)Z"⟩
abbrev cX0_measure : ByteArray := prog_2_method_12_code
def yX0_measure : MethodName := ⟨RX0, "measure", "()V"⟩
abbrev cX0_sizeBelow : ByteArray := prog_2_method_13_code
def yX0_sizeBelow : MethodName := ⟨RX0, "sizeBelow", "(I)I"⟩
def RX1 : String := "PrettyShapes$Frontiers"
def TX1 : u_T := fun k => match k with
  | 0 => ("PrettyShapes$Frontiers", "shapes", "LPrettyShapes$Shapes;", true)
  | 1 => ("PrettyShapes$Frontiers", "size", "[I", true)
  | 2 => ("PrettyShapes$Frontiers", "tries", "I", false)
  | _ => ("PrettyShapes$Frontiers", "letGo", "I", false)
def tyX1 : Nat → FieldType := fun k => match k with
  | 0 => .object "PrettyShapes$Shapes"
  | 1 => .array .int
  | 2 => .int
  | _ => .int
abbrev wsX10 : List Cond := u_ws RX1 TX1 4
theorem nmX1 : ∀ a, a < 4 → ∀ b, b < 4 → a ≠ b → (TX1 a).2.1 ≠ (TX1 b).2.1 := by decide +kernel
theorem tyX1_ok : ∀ k, k < 4 → parseFieldDescriptor (TX1 k).2.2.1 = some (tyX1 k) := by decide +kernel
abbrev cX1_init : ByteArray := prog_3_method_1_code
def yX1_init : MethodName := ⟨RX1, "<init>", "()V"⟩
abbrev cX1_sizeOf : ByteArray := prog_3_method_2_code
def yX1_sizeOf : MethodName := ⟨RX1, "sizeOf", "(I)I"⟩
abbrev cX1_make : ByteArray := prog_3_method_3_code
def yX1_make : MethodName := ⟨RX1, "make", "(LPrettyShapes$Doc;I)V"⟩
abbrev cX1_tryEach : ByteArray := prog_3_method_4_code
def yX1_tryEach : MethodName := ⟨RX1, "tryEach", "(IIII)V"⟩
abbrev cX1_tryPairs : ByteArray := prog_3_method_5_code
def yX1_tryPairs : MethodName := ⟨RX1, "tryPairs", "(LPrettyShapes$Doc;II)V"⟩
abbrev cX1_tryAlone : ByteArray := prog_3_method_6_code
def yX1_tryAlone : MethodName := ⟨RX1, "tryAlone", "(LPrettyShapes$Doc;II)V"⟩
abbrev cX1_trialPlace : ByteArray := prog_3_method_7_code
def yX1_trialPlace : MethodName := ⟨RX1, "trialPlace", "(I)I"⟩
abbrev cX1_tryLast : ByteArray := prog_3_method_8_code
def yX1_tryLast : MethodName := ⟨RX1, "tryLast", "(II)V"⟩
abbrev cX1_fewestLines : ByteArray := prog_3_method_9_code
def yX1_fewestLines : MethodName := ⟨RX1, "fewestLines", "()I"⟩
abbrev cX1_leastMost : ByteArray := prog_3_method_10_code
def yX1_leastMost : MethodName := ⟨RX1, "leastMost", "()I"⟩
def RX2 : String := "PrettyShapes$Setting"
def TX2 : u_T := fun k => match k with
  | 0 => ("PrettyShapes$Setting", "isIn", "[Z", true)
  | 1 => ("PrettyShapes$Setting", "line", "[I", true)
  | 2 => ("PrettyShapes$Setting", "column", "[I", true)
  | 3 => ("PrettyShapes$Setting", "columns", "[I", true)
  | 4 => ("PrettyShapes$Setting", "letter", "[I", true)
  | _ => ("PrettyShapes$Setting", "parts", "I", false)
def tyX2 : Nat → FieldType := fun k => match k with
  | 0 => .array .boolean
  | 1 => .array .int
  | 2 => .array .int
  | 3 => .array .int
  | 4 => .array .int
  | _ => .int
abbrev wsX20 : List Cond := u_ws RX2 TX2 6
theorem nmX2 : ∀ a, a < 6 → ∀ b, b < 6 → a ≠ b → (TX2 a).2.1 ≠ (TX2 b).2.1 := by decide +kernel
theorem tyX2_ok : ∀ k, k < 6 → parseFieldDescriptor (TX2 k).2.2.1 = some (tyX2 k) := by decide +kernel
abbrev cX2_init : ByteArray := prog_4_method_1_code
def yX2_init : MethodName := ⟨RX2, "<init>", "()V"⟩
abbrev cX2_clear : ByteArray := prog_4_method_2_code
def yX2_clear : MethodName := ⟨RX2, "clear", "()V"⟩
abbrev cX2_place : ByteArray := prog_4_method_3_code
def yX2_place : MethodName := ⟨RX2, "place", "(LPrettyShapes$Doc;LPrettyShapes$Shapes;)V"⟩
abbrev cX2_putAt : ByteArray := prog_4_method_4_code
def yX2_putAt : MethodName := ⟨RX2, "putAt", "(III)V"⟩
abbrev cX2_placeBelow : ByteArray := prog_4_method_5_code
def yX2_placeBelow : MethodName := ⟨RX2, "placeBelow", "(LPrettyShapes$Doc;LPrettyShapes$Shapes;II)V"⟩
abbrev cX2_isWordOn : ByteArray := prog_4_method_6_code
def yX2_isWordOn : MethodName := ⟨RX2, "isWordOn", "(II)Z"⟩
abbrev cX2_columnsOf : ByteArray := prog_4_method_7_code
def yX2_columnsOf : MethodName := ⟨RX2, "columnsOf", "(I)I"⟩
abbrev cX2_byteAt : ByteArray := prog_4_method_8_code
def yX2_byteAt : MethodName := ⟨RX2, "byteAt", "(II)I"⟩
def RX3 : String := "PrettyShapes$Shapes"
def TX3 : u_T := fun k => match k with
  | 0 => ("PrettyShapes$Shapes", "lines", "[I", true)
  | 1 => ("PrettyShapes$Shapes", "last", "[I", true)
  | 2 => ("PrettyShapes$Shapes", "most", "[I", true)
  | _ => ("PrettyShapes$Shapes", "way", "[I", true)
def tyX3 : Nat → FieldType := fun k => match k with
  | 0 => .array .int
  | 1 => .array .int
  | 2 => .array .int
  | _ => .array .int
abbrev wsX30 : List Cond := u_ws RX3 TX3 4
theorem nmX3 : ∀ a, a < 4 → ∀ b, b < 4 → a ≠ b → (TX3 a).2.1 ≠ (TX3 b).2.1 := by decide +kernel
theorem tyX3_ok : ∀ k, k < 4 → parseFieldDescriptor (TX3 k).2.2.1 = some (tyX3 k) := by decide +kernel
abbrev cX3_init : ByteArray := prog_5_method_1_code
def yX3_init : MethodName := ⟨RX3, "<init>", "(I)V"⟩
abbrev cX3_has : ByteArray := prog_5_method_2_code
def yX3_has : MethodName := ⟨RX3, "has", "(I)Z"⟩
abbrev cX3_set : ByteArray := prog_5_method_3_code
def yX3_set : MethodName := ⟨RX3, "set", "(IIIII)V"⟩
abbrev cX3_setWord : ByteArray := prog_5_method_4_code
def yX3_setWord : MethodName := ⟨RX3, "setWord", "(II)V"⟩
abbrev cX3_setLike : ByteArray := prog_5_method_5_code
def yX3_setLike : MethodName := ⟨RX3, "setLike", "(III)V"⟩
abbrev cX3_setMade : ByteArray := prog_5_method_6_code
def yX3_setMade : MethodName := ⟨RX3, "setMade", "(IIIII)V"⟩
abbrev cX3_noneGreater : ByteArray := prog_5_method_7_code
def yX3_noneGreater : MethodName := ⟨RX3, "noneGreater", "(II)Z"⟩
abbrev cX3_fewerLines : ByteArray := prog_5_method_8_code
def yX3_fewerLines : MethodName := ⟨RX3, "fewerLines", "(II)Z"⟩
abbrev cX3_lessMost : ByteArray := prog_5_method_9_code
def yX3_lessMost : MethodName := ⟨RX3, "lessMost", "(II)Z"⟩
abbrev cX3_tell : ByteArray := prog_5_method_10_code
def yX3_tell : MethodName := ⟨RX3, "tell", "(II)I"⟩
def RX4 : String := "PrettyShapes$Sheet"
def TX4 : u_T := fun k => match k with
  | 0 => ("PrettyShapes$Sheet", "items", "[I", true)
  | 1 => ("PrettyShapes$Sheet", "form", "I", false)
  | _ => ("PrettyShapes$Sheet", "size", "I", false)
def tyX4 : Nat → FieldType := fun k => match k with
  | 0 => .array .int
  | 1 => .int
  | _ => .int
abbrev wsX40 : List Cond := u_ws RX4 TX4 3
theorem nmX4 : ∀ a, a < 3 → ∀ b, b < 3 → a ≠ b → (TX4 a).2.1 ≠ (TX4 b).2.1 := by decide +kernel
theorem tyX4_ok : ∀ k, k < 3 → parseFieldDescriptor (TX4 k).2.2.1 = some (tyX4 k) := by decide +kernel
abbrev cX4_init : ByteArray := prog_6_method_1_code
def yX4_init : MethodName := ⟨RX4, "<init>", "()V"⟩
abbrev cX4_isLost : ByteArray := prog_6_method_2_code
def yX4_isLost : MethodName := ⟨RX4, "isLost", "()Z"⟩
abbrev cX4_renew : ByteArray := prog_6_method_3_code
def yX4_renew : MethodName := ⟨RX4, "renew", "(II)V"⟩
abbrev cX4_hasItems : ByteArray := prog_6_method_4_code
def yX4_hasItems : MethodName := ⟨RX4, "hasItems", "(II)Z"⟩
abbrev cX4_itemAt : ByteArray := prog_6_method_5_code
def yX4_itemAt : MethodName := ⟨RX4, "itemAt", "(I)I"⟩
abbrev cX4_store : ByteArray := prog_6_method_6_code
def yX4_store : MethodName := ⟨RX4, "store", "(II)V"⟩
def RX5 : String := "PrettyShapes$Ways"
def TX5 : u_T := fun k => match k with
  | 0 => ("PrettyShapes$Ways", "parts", "LPrettyShapes$Shapes;", true)
  | 1 => ("PrettyShapes$Ways", "whole", "LPrettyShapes$Shapes;", true)
  | 2 => ("PrettyShapes$Ways", "linesFor", "[I", true)
  | 3 => ("PrettyShapes$Ways", "shrink", "[I", true)
  | 4 => ("PrettyShapes$Ways", "shrinkCount", "I", false)
  | 5 => ("PrettyShapes$Ways", "enoughWidth", "I", false)
  | _ => ("PrettyShapes$Ways", "many", "I", false)
def tyX5 : Nat → FieldType := fun k => match k with
  | 0 => .object "PrettyShapes$Shapes"
  | 1 => .object "PrettyShapes$Shapes"
  | 2 => .array .int
  | 3 => .array .int
  | 4 => .int
  | 5 => .int
  | _ => .int
abbrev wsX50 : List Cond := u_ws RX5 TX5 7
theorem nmX5 : ∀ a, a < 7 → ∀ b, b < 7 → a ≠ b → (TX5 a).2.1 ≠ (TX5 b).2.1 := by decide +kernel
theorem tyX5_ok : ∀ k, k < 7 → parseFieldDescriptor (TX5 k).2.2.1 = some (tyX5 k) := by decide +kernel
abbrev cX5_init : ByteArray := prog_7_method_1_code
def yX5_init : MethodName := ⟨RX5, "<init>", "()V"⟩
abbrev cX5_make : ByteArray := prog_7_method_2_code
def yX5_make : MethodName := ⟨RX5, "make", "(LPrettyShapes$Doc;)V"⟩
abbrev cX5_shapeParts : ByteArray := prog_7_method_3_code
def yX5_shapeParts : MethodName := ⟨RX5, "shapeParts", "(LPrettyShapes$Doc;I)V"⟩
abbrev cX5_shapeOne : ByteArray := prog_7_method_4_code
def yX5_shapeOne : MethodName := ⟨RX5, "shapeOne", "(LPrettyShapes$Doc;II)V"⟩
abbrev cX5_stands : ByteArray := prog_7_method_5_code
def yX5_stands : MethodName := ⟨RX5, "stands", "(I)Z"⟩
abbrev cX5_findLines : ByteArray := prog_7_method_6_code
def yX5_findLines : MethodName := ⟨RX5, "findLines", "()V"⟩
abbrev cX5_findShrinks : ByteArray := prog_7_method_7_code
def yX5_findShrinks : MethodName := ⟨RX5, "findShrinks", "()V"⟩
abbrev cX5_shrinkAt : ByteArray := prog_7_method_8_code
def yX5_shrinkAt : MethodName := ⟨RX5, "shrinkAt", "(I)I"⟩
abbrev cX5_tell : ByteArray := prog_7_method_9_code
def yX5_tell : MethodName := ⟨RX5, "tell", "(II)I"⟩
abbrev cX5_hasty : ByteArray := prog_7_method_10_code
def yX5_hasty : MethodName := ⟨RX5, "hasty", "(II)I"⟩
abbrev cX5_isAny : ByteArray := prog_7_method_11_code
def yX5_isAny : MethodName := ⟨RX5, "isAny", "(III)Z"⟩
abbrev cX5_fits : ByteArray := prog_7_method_12_code
def yX5_fits : MethodName := ⟨RX5, "fits", "(II)Z"⟩
abbrev cX5_fewestLines : ByteArray := prog_7_method_13_code
def yX5_fewestLines : MethodName := ⟨RX5, "fewestLines", "(II)I"⟩
abbrev cX5_linesOfLeastMost : ByteArray := prog_7_method_14_code
def yX5_linesOfLeastMost : MethodName := ⟨RX5, "linesOfLeastMost", "(I)I"⟩
def RX6 : String := "PrettyShapes"
def TX6 : u_T := fun k => match k with
  | 0 => ("PrettyShapes", "doc", "LPrettyShapes$Doc;", true)
  | 1 => ("PrettyShapes", "frontiers", "LPrettyShapes$Frontiers;", true)
  | 2 => ("PrettyShapes", "bestShape", "LPrettyShapes$Shapes;", true)
  | 3 => ("PrettyShapes", "ways", "LPrettyShapes$Ways;", true)
  | 4 => ("PrettyShapes", "setting", "LPrettyShapes$Setting;", true)
  | 5 => ("PrettyShapes", "sheets", "[LPrettyShapes$Sheet;", true)
  | 6 => ("PrettyShapes", "width", "I", false)
  | 7 => ("PrettyShapes", "finding", "I", false)
  | 8 => ("PrettyShapes", "hasBest", "Z", false)
  | _ => ("PrettyShapes", "over", "Z", false)
def tyX6 : Nat → FieldType := fun k => match k with
  | 0 => .object "PrettyShapes$Doc"
  | 1 => .object "PrettyShapes$Frontiers"
  | 2 => .object "PrettyShapes$Shapes"
  | 3 => .object "PrettyShapes$Ways"
  | 4 => .object "PrettyShapes$Setting"
  | 5 => .array (.object "PrettyShapes$Sheet")
  | 6 => .int
  | 7 => .int
  | 8 => .boolean
  | _ => .boolean
abbrev wsX60 : List Cond := u_ws RX6 TX6 10
theorem nmX6 : ∀ a, a < 10 → ∀ b, b < 10 → a ≠ b → (TX6 a).2.1 ≠ (TX6 b).2.1 := by decide +kernel
theorem tyX6_ok : ∀ k, k < 10 → parseFieldDescriptor (TX6 k).2.2.1 = some (tyX6 k) := by decide +kernel
abbrev cX6_init : ByteArray := prog_1_method_1_code
def yX6_init : MethodName := ⟨RX6, "<init>", "()V"⟩
abbrev cX6_type : ByteArray := prog_1_method_2_code
def yX6_type : MethodName := ⟨RX6, "type", "(I)I"⟩
abbrev cX6_wipe : ByteArray := prog_1_method_3_code
def yX6_wipe : MethodName := ⟨RX6, "wipe", "()I"⟩
abbrev cX6_undo : ByteArray := prog_1_method_4_code
def yX6_undo : MethodName := ⟨RX6, "undo", "()I"⟩
abbrev cX6_fault : ByteArray := prog_1_method_5_code
def yX6_fault : MethodName := ⟨RX6, "fault", "()I"⟩
abbrev cX6_width : ByteArray := prog_1_method_6_code
def yX6_width : MethodName := ⟨RX6, "width", "(I)I"⟩
abbrev cX6_read : ByteArray := prog_1_method_7_code
def yX6_read : MethodName := ⟨RX6, "read", "(I)I"⟩
abbrev cX6_part : ByteArray := prog_1_method_8_code
def yX6_part : MethodName := ⟨RX6, "part", "(II)I"⟩
abbrev cX6_frontier : ByteArray := prog_1_method_9_code
def yX6_frontier : MethodName := ⟨RX6, "frontier", "(III)I"⟩
abbrev cX6_tried : ByteArray := prog_1_method_10_code
def yX6_tried : MethodName := ⟨RX6, "tried", "(I)I"⟩
abbrev cX6_best : ByteArray := prog_1_method_11_code
def yX6_best : MethodName := ⟨RX6, "best", "(I)I"⟩
abbrev cX6_line : ByteArray := prog_1_method_12_code
def yX6_line : MethodName := ⟨RX6, "line", "(II)I"⟩
abbrev cX6_way : ByteArray := prog_1_method_13_code
def yX6_way : MethodName := ⟨RX6, "way", "(II)I"⟩
abbrev cX6_haste : ByteArray := prog_1_method_14_code
def yX6_haste : MethodName := ⟨RX6, "haste", "(I)I"⟩
abbrev cX6_enough : ByteArray := prog_1_method_15_code
def yX6_enough : MethodName := ⟨RX6, "enough", "()I"⟩
abbrev cX6_shrinks : ByteArray := prog_1_method_16_code
def yX6_shrinks : MethodName := ⟨RX6, "shrinks", "(I)I"⟩
abbrev cX6_spare : ByteArray := prog_1_method_17_code
def yX6_spare : MethodName := ⟨RX6, "spare", "()I"⟩
abbrev cX6_sheet : ByteArray := prog_1_method_18_code
def yX6_sheet : MethodName := ⟨RX6, "sheet", "(III)I"⟩
abbrev cX6_lose : ByteArray := prog_1_method_19_code
def yX6_lose : MethodName := ⟨RX6, "lose", "(I)I"⟩
abbrev cX6_put : ByteArray := prog_1_method_20_code
def yX6_put : MethodName := ⟨RX6, "put", "(IIII)I"⟩
abbrev cX6_get : ByteArray := prog_1_method_21_code
def yX6_get : MethodName := ⟨RX6, "get", "(III)I"⟩
abbrev cX6_copy : ByteArray := prog_1_method_22_code
def yX6_copy : MethodName := ⟨RX6, "copy", "(IIIII)I"⟩
abbrev cX6_write : ByteArray := prog_1_method_23_code
def yX6_write : MethodName := ⟨RX6, "write", "(II)I"⟩
abbrev cX6_count : ByteArray := prog_1_method_24_code
def yX6_count : MethodName := ⟨RX6, "count", "(I)I"⟩
abbrev cX6_digest : ByteArray := prog_1_method_25_code
def yX6_digest : MethodName := ⟨RX6, "digest", "()J"⟩
abbrev cX6_digestParts : ByteArray := prog_1_method_26_code
def yX6_digestParts : MethodName := ⟨RX6, "digestParts", "(J)J"⟩
abbrev cX6_digestShape : ByteArray := prog_1_method_27_code
def yX6_digestShape : MethodName := ⟨RX6, "digestShape", "(JII)J"⟩
abbrev cX6_digestBest : ByteArray := prog_1_method_28_code
def yX6_digestBest : MethodName := ⟨RX6, "digestBest", "(J)J"⟩
abbrev cX6_digestWays : ByteArray := prog_1_method_29_code
def yX6_digestWays : MethodName := ⟨RX6, "digestWays", "(J)J"⟩
abbrev cX6_readDoc : ByteArray := prog_1_method_30_code
def yX6_readDoc : MethodName := ⟨RX6, "readDoc", "()V"⟩
abbrev cX6_chooseBest : ByteArray := prog_1_method_31_code
def yX6_chooseBest : MethodName := ⟨RX6, "chooseBest", "()V"⟩
abbrev cX6_keepBest : ByteArray := prog_1_method_32_code
def yX6_keepBest : MethodName := ⟨RX6, "keepBest", "(I)V"⟩
abbrev cX6_sheetOf : ByteArray := prog_1_method_33_code
def yX6_sheetOf : MethodName := ⟨RX6, "sheetOf", "(I)LPrettyShapes$Sheet;"⟩
abbrev cX6_isByte : ByteArray := prog_1_method_34_code
def yX6_isByte : MethodName := ⟨RX6, "isByte", "(I)Z"⟩
abbrev cX6_isForm : ByteArray := prog_1_method_35_code
def yX6_isForm : MethodName := ⟨RX6, "isForm", "(I)Z"⟩
abbrev cX6_wrongItem : ByteArray := prog_1_method_36_code
def yX6_wrongItem : MethodName := ⟨RX6, "wrongItem", "(LPrettyShapes$Sheet;II)I"⟩
abbrev cX6_found : ByteArray := prog_1_method_37_code
def yX6_found : MethodName := ⟨RX6, "found", "(I)I"⟩
def RX7 : String := "PrettyShapesModel"
def TX7 : u_T := fun k => match k with
  | 0 => ("PrettyShapesModel", "typed", "I", false)
  | 1 => ("PrettyShapesModel", "text", "[I", true)
  | 2 => ("PrettyShapesModel", "widthTold", "I", false)
  | 3 => ("PrettyShapesModel", "faultAt", "I", false)
  | 4 => ("PrettyShapesModel", "parts", "I", false)
  | 5 => ("PrettyShapesModel", "choices", "I", false)
  | 6 => ("PrettyShapesModel", "kinds", "[I", true)
  | 7 => ("PrettyShapesModel", "numbers", "[I", true)
  | 8 => ("PrettyShapesModel", "begins", "[I", true)
  | 9 => ("PrettyShapesModel", "bytes", "[I", true)
  | 10 => ("PrettyShapesModel", "within", "[I", true)
  | 11 => ("PrettyShapesModel", "seconds", "[I", true)
  | 12 => ("PrettyShapesModel", "above", "[I", true)
  | 13 => ("PrettyShapesModel", "fronts", "[I", true)
  | 14 => ("PrettyShapesModel", "many", "[I", true)
  | 15 => ("PrettyShapesModel", "triedMany", "I", false)
  | 16 => ("PrettyShapesModel", "letGo", "I", false)
  | 17 => ("PrettyShapesModel", "widthNow", "I", false)
  | 18 => ("PrettyShapesModel", "bestNow", "I", false)
  | 19 => ("PrettyShapesModel", "isOver", "Z", false)
  | 20 => ("PrettyShapesModel", "shapes", "[I", true)
  | 21 => ("PrettyShapesModel", "byWay", "[I", true)
  | 22 => ("PrettyShapesModel", "rowAt", "[I", true)
  | 23 => ("PrettyShapesModel", "columnAt", "[I", true)
  | 24 => ("PrettyShapesModel", "isSet", "[I", true)
  | 25 => ("PrettyShapesModel", "isThere", "[Z", true)
  | 26 => ("PrettyShapesModel", "forms", "[I", true)
  | 27 => ("PrettyShapesModel", "sizes", "[I", true)
  | 28 => ("PrettyShapesModel", "items", "[I", true)
  | 29 => ("PrettyShapesModel", "moved", "[I", true)
  | _ => ("PrettyShapesModel", "finding", "I", false)
def tyX7 : Nat → FieldType := fun k => match k with
  | 0 => .int
  | 1 => .array .int
  | 2 => .int
  | 3 => .int
  | 4 => .int
  | 5 => .int
  | 6 => .array .int
  | 7 => .array .int
  | 8 => .array .int
  | 9 => .array .int
  | 10 => .array .int
  | 11 => .array .int
  | 12 => .array .int
  | 13 => .array .int
  | 14 => .array .int
  | 15 => .int
  | 16 => .int
  | 17 => .int
  | 18 => .int
  | 19 => .boolean
  | 20 => .array .int
  | 21 => .array .int
  | 22 => .array .int
  | 23 => .array .int
  | 24 => .array .int
  | 25 => .array .boolean
  | 26 => .array .int
  | 27 => .array .int
  | 28 => .array .int
  | 29 => .array .int
  | _ => .int
abbrev wsX70 : List Cond := u_ws RX7 TX7 31
theorem nmX7 : ∀ a, a < 31 → ∀ b, b < 31 → a ≠ b → (TX7 a).2.1 ≠ (TX7 b).2.1 := by decide +kernel
theorem tyX7_ok : ∀ k, k < 31 → parseFieldDescriptor (TX7 k).2.2.1 = some (tyX7 k) := by decide +kernel
abbrev cX7_init : ByteArray := prog_9_method_1_code
def yX7_init : MethodName := ⟨RX7, "<init>", "()V"⟩
abbrev cX7_in : ByteArray := prog_9_method_3_code
def yX7_in : MethodName := ⟨RX7, "in", "(III)Z"⟩
abbrev cX7_isIn : ByteArray := prog_9_method_4_code
def yX7_isIn : MethodName := ⟨RX7, "isIn", "(II)Z"⟩
abbrev cX7_type : ByteArray := prog_9_method_5_code
def yX7_type : MethodName := ⟨RX7, "type", "(I)I"⟩
abbrev cX7_wipe : ByteArray := prog_9_method_6_code
def yX7_wipe : MethodName := ⟨RX7, "wipe", "()I"⟩
abbrev cX7_undo : ByteArray := prog_9_method_7_code
def yX7_undo : MethodName := ⟨RX7, "undo", "()I"⟩
abbrev cX7_width : ByteArray := prog_9_method_8_code
def yX7_width : MethodName := ⟨RX7, "width", "(I)I"⟩
abbrev cX7_read : ByteArray := prog_9_method_9_code
def yX7_read : MethodName := ⟨RX7, "read", "(I)I"⟩
abbrev cX7_kindOf : ByteArray := prog_9_method_10_code
def yX7_kindOf : MethodName := ⟨RX7, "kindOf", "(I)I"⟩
abbrev cX7_isTwofold : ByteArray := prog_9_method_11_code
def yX7_isTwofold : MethodName := ⟨RX7, "isTwofold", "(I)Z"⟩
abbrev cX7_readsText : ByteArray := prog_9_method_12_code
def yX7_readsText : MethodName := ⟨RX7, "readsText", "()I"⟩
abbrev cX7_reads : ByteArray := prog_9_method_13_code
def yX7_reads : MethodName := ⟨RX7, "reads", "()V"⟩
abbrev cX7_faultOf : ByteArray := prog_9_method_14_code
def yX7_faultOf : MethodName := ⟨RX7, "faultOf", "()I"⟩
abbrev cX7_fault : ByteArray := prog_9_method_15_code
def yX7_fault : MethodName := ⟨RX7, "fault", "()I"⟩
abbrev cX7_shape : ByteArray := prog_9_method_16_code
def yX7_shape : MethodName := ⟨RX7, "shape", "(IIII)I"⟩
abbrev cX7_lines : ByteArray := prog_9_method_17_code
def yX7_lines : MethodName := ⟨RX7, "lines", "(I)I"⟩
abbrev cX7_last : ByteArray := prog_9_method_18_code
def yX7_last : MethodName := ⟨RX7, "last", "(I)I"⟩
abbrev cX7_most : ByteArray := prog_9_method_19_code
def yX7_most : MethodName := ⟨RX7, "most", "(I)I"⟩
abbrev cX7_wayOf : ByteArray := prog_9_method_20_code
def yX7_wayOf : MethodName := ⟨RX7, "wayOf", "(I)I"⟩
abbrev cX7_max : ByteArray := prog_9_method_21_code
def yX7_max : MethodName := ⟨RX7, "max", "(II)I"⟩
abbrev cX7_both : ByteArray := prog_9_method_22_code
def yX7_both : MethodName := ⟨RX7, "both", "(III)I"⟩
abbrev cX7_pushed : ByteArray := prog_9_method_23_code
def yX7_pushed : MethodName := ⟨RX7, "pushed", "(II)I"⟩
abbrev cX7_isNoGreater : ByteArray := prog_9_method_24_code
def yX7_isNoGreater : MethodName := ⟨RX7, "isNoGreater", "(II)Z"⟩
abbrev cX7_tries : ByteArray := prog_9_method_25_code
def yX7_tries : MethodName := ⟨RX7, "tries", "(II)V"⟩
abbrev cX7_triesBoth : ByteArray := prog_9_method_26_code
def yX7_triesBoth : MethodName := ⟨RX7, "triesBoth", "(I)V"⟩
abbrev cX7_triesChoice : ByteArray := prog_9_method_27_code
def yX7_triesChoice : MethodName := ⟨RX7, "triesChoice", "(I)V"⟩
abbrev cX7_findsFronts : ByteArray := prog_9_method_28_code
def yX7_findsFronts : MethodName := ⟨RX7, "findsFronts", "(I)V"⟩
abbrev cX7_frontsTold : ByteArray := prog_9_method_29_code
def yX7_frontsTold : MethodName := ⟨RX7, "frontsTold", "()V"⟩
abbrev cX7_isPart : ByteArray := prog_9_method_30_code
def yX7_isPart : MethodName := ⟨RX7, "isPart", "(I)Z"⟩
abbrev cX7_manyOf : ByteArray := prog_9_method_31_code
def yX7_manyOf : MethodName := ⟨RX7, "manyOf", "(I)I"⟩
abbrev cX7_partOf : ByteArray := prog_9_method_32_code
def yX7_partOf : MethodName := ⟨RX7, "partOf", "(II)I"⟩
abbrev cX7_part : ByteArray := prog_9_method_33_code
def yX7_part : MethodName := ⟨RX7, "part", "(II)I"⟩
abbrev cX7_tellOf : ByteArray := prog_9_method_34_code
def yX7_tellOf : MethodName := ⟨RX7, "tellOf", "(II)I"⟩
abbrev cX7_frontierOf : ByteArray := prog_9_method_35_code
def yX7_frontierOf : MethodName := ⟨RX7, "frontierOf", "(III)I"⟩
abbrev cX7_frontier : ByteArray := prog_9_method_36_code
def yX7_frontier : MethodName := ⟨RX7, "frontier", "(III)I"⟩
abbrev cX7_triedOf : ByteArray := prog_9_method_37_code
def yX7_triedOf : MethodName := ⟨RX7, "triedOf", "(I)I"⟩
abbrev cX7_tried : ByteArray := prog_9_method_38_code
def yX7_tried : MethodName := ⟨RX7, "tried", "(I)I"⟩
abbrev cX7_isAhead : ByteArray := prog_9_method_39_code
def yX7_isAhead : MethodName := ⟨RX7, "isAhead", "(II)Z"⟩
abbrev cX7_findsBest : ByteArray := prog_9_method_40_code
def yX7_findsBest : MethodName := ⟨RX7, "findsBest", "()V"⟩
abbrev cX7_bestOf : ByteArray := prog_9_method_41_code
def yX7_bestOf : MethodName := ⟨RX7, "bestOf", "(I)I"⟩
abbrev cX7_best : ByteArray := prog_9_method_42_code
def yX7_best : MethodName := ⟨RX7, "best", "(I)I"⟩
abbrev cX7_shapeBy : ByteArray := prog_9_method_43_code
def yX7_shapeBy : MethodName := ⟨RX7, "shapeBy", "(II)I"⟩
abbrev cX7_shapeOf : ByteArray := prog_9_method_44_code
def yX7_shapeOf : MethodName := ⟨RX7, "shapeOf", "(I)I"⟩
abbrev cX7_findsWays : ByteArray := prog_9_method_45_code
def yX7_findsWays : MethodName := ⟨RX7, "findsWays", "()V"⟩
abbrev cX7_wayFor : ByteArray := prog_9_method_46_code
def yX7_wayFor : MethodName := ⟨RX7, "wayFor", "(II)I"⟩
abbrev cX7_way : ByteArray := prog_9_method_47_code
def yX7_way : MethodName := ⟨RX7, "way", "(II)I"⟩
abbrev cX7_sets : ByteArray := prog_9_method_48_code
def yX7_sets : MethodName := ⟨RX7, "sets", "()V"⟩
abbrev cX7_puts : ByteArray := prog_9_method_49_code
def yX7_puts : MethodName := ⟨RX7, "puts", "(III)V"⟩
abbrev cX7_setsBelow : ByteArray := prog_9_method_50_code
def yX7_setsBelow : MethodName := ⟨RX7, "setsBelow", "(I)V"⟩
abbrev cX7_columnsIn : ByteArray := prog_9_method_51_code
def yX7_columnsIn : MethodName := ⟨RX7, "columnsIn", "(I)I"⟩
abbrev cX7_byteIn : ByteArray := prog_9_method_52_code
def yX7_byteIn : MethodName := ⟨RX7, "byteIn", "(II)I"⟩
abbrev cX7_lineOf : ByteArray := prog_9_method_53_code
def yX7_lineOf : MethodName := ⟨RX7, "lineOf", "(II)I"⟩
abbrev cX7_line : ByteArray := prog_9_method_54_code
def yX7_line : MethodName := ⟨RX7, "line", "(II)I"⟩
abbrev cX7_isAllowed : ByteArray := prog_9_method_55_code
def yX7_isAllowed : MethodName := ⟨RX7, "isAllowed", "(II)Z"⟩
abbrev cX7_isAny : ByteArray := prog_9_method_56_code
def yX7_isAny : MethodName := ⟨RX7, "isAny", "(II)Z"⟩
abbrev cX7_hasteOf : ByteArray := prog_9_method_57_code
def yX7_hasteOf : MethodName := ⟨RX7, "hasteOf", "(I)I"⟩
abbrev cX7_haste : ByteArray := prog_9_method_58_code
def yX7_haste : MethodName := ⟨RX7, "haste", "(I)I"⟩
abbrev cX7_leastMost : ByteArray := prog_9_method_59_code
def yX7_leastMost : MethodName := ⟨RX7, "leastMost", "()I"⟩
abbrev cX7_enoughOf : ByteArray := prog_9_method_60_code
def yX7_enoughOf : MethodName := ⟨RX7, "enoughOf", "()I"⟩
abbrev cX7_enough : ByteArray := prog_9_method_61_code
def yX7_enough : MethodName := ⟨RX7, "enough", "()I"⟩
abbrev cX7_fewest : ByteArray := prog_9_method_62_code
def yX7_fewest : MethodName := ⟨RX7, "fewest", "(II)I"⟩
abbrev cX7_shrinksOf : ByteArray := prog_9_method_63_code
def yX7_shrinksOf : MethodName := ⟨RX7, "shrinksOf", "(I)I"⟩
abbrev cX7_shrinks : ByteArray := prog_9_method_64_code
def yX7_shrinks : MethodName := ⟨RX7, "shrinks", "(I)I"⟩
abbrev cX7_leastWithout : ByteArray := prog_9_method_65_code
def yX7_leastWithout : MethodName := ⟨RX7, "leastWithout", "(I)I"⟩
abbrev cX7_linesWithout : ByteArray := prog_9_method_66_code
def yX7_linesWithout : MethodName := ⟨RX7, "linesWithout", "(I)I"⟩
abbrev cX7_isOverBy : ByteArray := prog_9_method_67_code
def yX7_isOverBy : MethodName := ⟨RX7, "isOverBy", "(I)Z"⟩
abbrev cX7_spareOf : ByteArray := prog_9_method_68_code
def yX7_spareOf : MethodName := ⟨RX7, "spareOf", "()I"⟩
abbrev cX7_spare : ByteArray := prog_9_method_69_code
def yX7_spare : MethodName := ⟨RX7, "spare", "()I"⟩
abbrev cX7_meets : ByteArray := prog_9_method_70_code
def yX7_meets : MethodName := ⟨RX7, "meets", "(I)I"⟩
abbrev cX7_isSheet : ByteArray := prog_9_method_71_code
def yX7_isSheet : MethodName := ⟨RX7, "isSheet", "(I)Z"⟩
abbrev cX7_sheet : ByteArray := prog_9_method_72_code
def yX7_sheet : MethodName := ⟨RX7, "sheet", "(III)I"⟩
abbrev cX7_lose : ByteArray := prog_9_method_73_code
def yX7_lose : MethodName := ⟨RX7, "lose", "(I)I"⟩
abbrev cX7_lacks : ByteArray := prog_9_method_74_code
def yX7_lacks : MethodName := ⟨RX7, "lacks", "(III)I"⟩
abbrev cX7_keep : ByteArray := prog_9_method_75_code
def yX7_keep : MethodName := ⟨RX7, "keep", "(III)V"⟩
abbrev cX7_put : ByteArray := prog_9_method_76_code
def yX7_put : MethodName := ⟨RX7, "put", "(IIII)I"⟩
abbrev cX7_get : ByteArray := prog_9_method_77_code
def yX7_get : MethodName := ⟨RX7, "get", "(III)I"⟩
abbrev cX7_copy : ByteArray := prog_9_method_78_code
def yX7_copy : MethodName := ⟨RX7, "copy", "(IIIII)I"⟩
abbrev cX7_write : ByteArray := prog_9_method_79_code
def yX7_write : MethodName := ⟨RX7, "write", "(II)I"⟩
abbrev cX7_partsOf : ByteArray := prog_9_method_80_code
def yX7_partsOf : MethodName := ⟨RX7, "partsOf", "()I"⟩
abbrev cX7_choicesOf : ByteArray := prog_9_method_81_code
def yX7_choicesOf : MethodName := ⟨RX7, "choicesOf", "()I"⟩
abbrev cX7_wholeOf : ByteArray := prog_9_method_82_code
def yX7_wholeOf : MethodName := ⟨RX7, "wholeOf", "()I"⟩
abbrev cX7_count : ByteArray := prog_9_method_83_code
def yX7_count : MethodName := ⟨RX7, "count", "(I)I"⟩
abbrev cX7_partDigest : ByteArray := prog_9_method_84_code
def yX7_partDigest : MethodName := ⟨RX7, "partDigest", "(JI)J"⟩
abbrev cX7_digest : ByteArray := prog_9_method_85_code
def yX7_digest : MethodName := ⟨RX7, "digest", "()J"⟩
def RJ9 : String := "java/lang/Math"
def TJ9 : u_T := fun k => match k with
  | _ => ("", "", "", false)
def tyJ9 : Nat → FieldType := fun k => match k with
  | _ => .int
abbrev wsJ90 : List Cond := u_ws RJ9 TJ9 0
theorem nmJ9 : ∀ a, a < 0 → ∀ b, b < 0 → a ≠ b → (TJ9 a).2.1 ≠ (TJ9 b).2.1 := by decide +kernel
theorem tyJ9_ok : ∀ k, k < 0 → parseFieldDescriptor (TJ9 k).2.2.1 = some (tyJ9 k) := by decide +kernel
abbrev cJ9_max_7cf53 : ByteArray := prog_10_method_65_code
def yJ9_max_7cf53 : MethodName := ⟨RJ9, "max", "(II)I"⟩
abbrev cJ9_min_7cf53 : ByteArray := prog_10_method_69_code
def yJ9_min_7cf53 : MethodName := ⟨RJ9, "min", "(II)I"⟩
def RJ10 : String := "java/lang/System"
def TJ10 : u_T := fun k => match k with
  | _ => ("", "", "", false)
def tyJ10 : Nat → FieldType := fun k => match k with
  | _ => .int
abbrev wsJ100 : List Cond := u_ws RJ10 TJ10 0
theorem nmJ10 : ∀ a, a < 0 → ∀ b, b < 0 → a ≠ b → (TJ10 a).2.1 ≠ (TJ10 b).2.1 := by decide +kernel
theorem tyJ10_ok : ∀ k, k < 0 → parseFieldDescriptor (TJ10 k).2.2.1 = some (tyJ10 k) := by decide +kernel
def RL : String := "PrettyShapesLaw"
abbrev cL_law : ByteArray := code
def yL_law : MethodName := ⟨RL, "law", "([I)Z"⟩
abbrev vwCl : List vw_C := [(RX0, TX0, 13), (RX1, TX1, 4), (RX2, TX2, 6), (RX3, TX3, 4), (RX4, TX4, 3), (RX5, TX5, 7), (RX6, TX6, 10), (RX7, TX7, 31)]
end
section
/-! ===== the world of fixed places: values, states, layouts ===== -/
/-- the tables' words that stay true -/
def gtb : List Cond := lw_tbl.filter goodWord
abbrev AV : Type := Int ⊕ (Int ⊕ Option Nat)
abbrev vI (a : Int) : AV := .inl a
abbrev vL (a : Int) : AV := .inr (.inl a)
abbrev vR (q : Option Nat) : AV := .inr (.inr q)
abbrev SS : Type := Nat → Nat → Int
def up (σ : SS) (q k : Nat) (v : Int) : SS := fun q' k' => if q' = q ∧ k' = k then v else σ q' k'
def wr (a : Int) : Int := (Int32.ofInt a).toInt
def wl (a : Int) : Int := (Int64.ofInt a).toInt
def IR (a : Int) : Prop := -2147483648 ≤ a ∧ a ≤ 2147483647
def LR (a : Int) : Prop := -9223372036854775808 ≤ a ∧ a ≤ 9223372036854775807
/-- (places, kind of a place, its length, what its references mean): kind 0 a row of ints, 1 of booleans, 2 of references, 3 + c an object of the c-th of vwCl -/
abbrev Lay : Type := Nat × (Nat → Nat) × (Nat → Nat) × (Nat → Nat → Option Nat)
/-- the tables' numbers, the three rows' classes, the places' addresses -/
abbrev Gd : Type := va_G × (ClassId × ClassId × ClassId) × (Nat → Nat)
/-- (name, bytes, locals, answer, room) -/
abbrev MI : Type := MethodName × ByteArray × Nat × Option FieldType × Room
def cv (G : Gd) : AV → Value
  | .inl a => .int (Int32.ofInt a)
  | .inr (.inl a) => .long (Int64.ofInt a)
  | .inr (.inr none) => .null
  | .inr (.inr (some q)) => .ref (G.2.2 q)
def fdv (L : Lay) (G : Gd) (σ : SS) (q k : Nat) : Value := match L.2.2.2 q k with
  | some p => .ref (G.2.2 p)
  | none => .int (Int32.ofInt (σ q k))
def ce (L : Lay) (G : Gd) (σ : SS) (q : Nat) : va_E :=
  if L.2.1 q = 0 then .inl (G.2.1.1, L.2.2.1 q, .inl (fun i => Int32.ofInt (σ q i)))
  else if L.2.1 q = 1 then .inl (G.2.1.2.1, L.2.2.1 q, .inl (fun i => Int32.ofInt (σ q i)))
  else if L.2.1 q = 2 then .inl (G.2.1.2.2, L.2.2.1 q, .inr (.inr (.inr (.inr (fun i => (L.2.2.2 q i).map G.2.2)))))
  else .inr (L.2.1 q - 3, (List.range (L.2.2.1 q)).map (fdv L G σ q))
def wo (L : Lay) (G : Gd) (σ : SS) : va_W := (List.range L.1).map (fun q => (G.2.2 q, ce L G σ q))
def tys (G : Gd) : List (ClassId × FieldType) := [(G.2.1.1, .int), (G.2.1.2.1, .boolean), (G.2.1.2.2, .object "PrettyShapes$Sheet")]
def AA (L : Lay) (G : Gd) (sz : Nat) : Nat → Prop := va_A (wo L G (fun _ _ => 0)) sz
def okv : AV → Prop
  | .inl a => IR a
  | .inr (.inl a) => LR a
  | .inr (.inr _) => True
def OKS (ls : List (Option AV)) (st : List AV) (σ : SS) : Prop := (∀ v, some v ∈ ls → okv v) ∧ (∀ v ∈ st, okv v) ∧ ∀ q k, IR (σ q k)
def okr (r : Option AV × SS) : Prop := (∀ v, r.1 = some v → okv v) ∧ ∀ q k, IR (r.2 q k)
def wsM (M : MI) : List Cond := Cond.code M.1 M.2.1 M.2.2.1 M.2.2.2.1 :: gtb
def CX (M : MI) (p : Program) (s : State) (m : MethodId) (args : Array Value) (meth : Method) (c : Code) (G : Gd) : Prop :=
  p.tables.exec = Jvm.exec ∧ c.code = M.2.1 ∧ c.maxLocals = M.2.2.1 ∧ meth.sig.returnType = M.2.2.2.1 ∧ meth.locks = false ∧ s.vm.findClass M.1.cls = some m.cls ∧ (∀ w ∈ gtb, w.before args s = true) ∧ va_K G.1 vwCl (tys G) s
def WD (L : Lay) (G : Gd) (s : State) (σ : SS) (H : Heap) (locs : List Loc) : Prop := va_P G.1 vwCl (wo L G σ) H ∧ va_D (AA L G s.heap.size) (wo L G σ) ∧ va_S (AA L G s.heap.size) s.heap H locs
def PQ (L : Lay) (G : Gd) (r : Option AV × SS) (sz : Nat) : Array Value → State → Outcome → State → Prop := fun _ st oc t =>
  (oc = .returned (r.1.map (cv G)) ∧ okr r ∧ va_P G.1 vwCl (wo L G r.2) t.heap ∧ va_K G.1 vwCl (tys G) t) ∧ va_F (AA L G sz) st t
def LVs (G : Gd) (ls : List (Option AV)) : List (Nat × Value) := (List.range ls.length).filterMap (fun i => (ls.getD i none).map (fun v => (i, cv G v)))
def AW (L : Lay) (M : MI) (r : Option AV × SS) (pc : Nat) (ls : List (Option AV)) (st : List AV) (σ : SS) : Prop :=
  ∀ (p : Program) (l : Launch) (e : Env) (s : State) (m : MethodId) (args : Array Value) (below : List Frame) (meth : Method) (c : Code) (G : Gd) (H : Heap) (locs : List Loc) (lsA : Array Slot),
    CX M p s m args meth c G → WD L G s σ H locs → OKS ls st σ → lv_has lsA M.2.2.1 (LVs G ls) →
    W p l e M.2.2.2.2 s m args below meth c H locs 0 0 (MQ below (PQ L G r s.heap.size) args s 0 0 (AA L G s.heap.size)) (F0 m pc lsA (st.map (cv G)))
def CT (L : Lay) (M : MI) (vs : List AV) (σ : SS) (r : Option AV × SS) : Prop :=
  (∀ v ∈ vs, okv v) → (∀ q k, IR (σ q k)) → ∀ (l : Launch) (G : Gd) (sz : Nat), Met l M.1 (wsM M) M.2.2.2.2 (va_Pc (vs.map (cv G)) (fun U => U.heap.size = sz ∧ va_P G.1 vwCl (wo L G σ) U.heap ∧ va_K G.1 vwCl (tys G) U ∧ va_D (fun _ => True) (wo L G σ))) (PQ L G r sz) 0 0 (AA L G sz)
/-! ===== numbers ===== -/
theorem IR_32 (x : Int32) : IR x.toInt := by
  have h1 := x.toInt_lt
  have h2 := x.le_toInt
  constructor <;> omega
theorem LR_64 (x : Int64) : LR x.toInt := by
  have h1 := x.toInt_lt
  have h2 := x.le_toInt
  constructor <;> omega
theorem IR_wr (a : Int) : IR (wr a) := IR_32 _
theorem LR_wl (a : Int) : LR (wl a) := LR_64 _
theorem ti_of {a : Int} (h : IR a) : (Int32.ofInt a).toInt = a := Int32.toInt_ofInt_of_le (by have := h.1; omega) (by have := h.2; omega)
theorem tl_of {a : Int} (h : LR a) : (Int64.ofInt a).toInt = a := Int64.toInt_ofInt_of_le (by have := h.1; omega) (by have := h.2; omega)
theorem wr_of {a : Int} (h : IR a) : wr a = a := ti_of h
theorem of_wr (a : Int) : Int32.ofInt (wr a) = Int32.ofInt a := Int32.ofInt_toInt _
theorem of_wl (a : Int) : Int64.ofInt (wl a) = Int64.ofInt a := Int64.ofInt_toInt _
theorem oi_add (a b : Int) : Int32.ofInt a + Int32.ofInt b = Int32.ofInt (a + b) := by
  apply Int32.toInt_inj.mp
  simp
theorem oi_sub (a b : Int) : Int32.ofInt a - Int32.ofInt b = Int32.ofInt (a - b) := by
  apply Int32.toInt_inj.mp
  simp
theorem oi_mul (a b : Int) : Int32.ofInt a * Int32.ofInt b = Int32.ofInt (a * b) := by
  apply Int32.toInt_inj.mp
  simp
theorem ol_add (a b : Int) : Int64.ofInt a + Int64.ofInt b = Int64.ofInt (a + b) := by
  apply Int64.toInt_inj.mp
  simp
theorem ol_mul (a b : Int) : Int64.ofInt a * Int64.ofInt b = Int64.ofInt (a * b) := by
  apply Int64.toInt_inj.mp
  simp
theorem oi_lt {a b : Int} (ha : IR a) (hb : IR b) : Int32.ofInt a < Int32.ofInt b ↔ a < b := by
  rw [Int32.lt_iff_toInt_lt, ti_of ha, ti_of hb]
theorem oi_le {a b : Int} (ha : IR a) (hb : IR b) : Int32.ofInt a ≤ Int32.ofInt b ↔ a ≤ b := by
  rw [Int32.le_iff_toInt_le, ti_of ha, ti_of hb]
theorem oi_eq {a b : Int} (ha : IR a) (hb : IR b) : Int32.ofInt a = Int32.ofInt b ↔ a = b := by
  rw [← Int32.toInt_inj, ti_of ha, ti_of hb]
theorem IR_0 : IR 0 := ⟨by decide, by decide⟩
theorem oi_in {a : Int} {n : Nat} (ha : IR a) (h : 0 ≤ a ∧ a < n) : vp_in (Int32.ofInt a) n := vp_in_iff.mpr (by rw [ti_of ha]; exact h)
theorem oi_nat {a : Int} (ha : IR a) : (Int32.ofInt a).toNatClampNeg = a.toNat := by
  show (Int32.ofInt a).toInt.toNat = a.toNat
  rw [ti_of ha]
/-! ===== the world's cells ===== -/
section Worlds
variable {L : Lay} {G : Gd} {σ σ' : SS} {q k : Nat}
theorem wo_at (h : q < L.1) : (wo L G σ)[q]? = some (G.2.2 q, ce L G σ q) := by
  simp [wo, List.getElem?_map, List.getElem?_range h]
theorem wo_at' {e : va_E} (h : q < L.1) (he : ce L G σ q = e) : (wo L G σ)[q]? = some (G.2.2 q, e) := by
  rw [wo_at h, he]
theorem wo_get {x : Nat × va_E} (h : (wo L G σ)[q]? = some x) : q < L.1 ∧ x = (G.2.2 q, ce L G σ q) := by
  have hq : q < L.1 := by
    have := (List.getElem?_eq_some_iff.mp h).1
    simpa [wo] using this
  rw [wo_at hq] at h
  exact ⟨hq, (Option.some.inj h).symm⟩
theorem ce_off (h : ∀ i, σ' q i = σ q i) : ce L G σ' q = ce L G σ q := by
  have e : σ' q = σ q := funext h
  have e2 : fdv L G σ' q = fdv L G σ q := by
    funext i
    simp only [fdv, h]
  simp only [ce, e, e2]
theorem wo_set (hq : q < L.1) {e : va_E} (he : ce L G σ' q = e) (h : ∀ p, p ≠ q → ∀ i, σ' p i = σ p i) : (wo L G σ).set q (G.2.2 q, e) = wo L G σ' := by
  apply List.ext_getElem?
  intro i
  by_cases hi : i < L.1
  · by_cases hiq : i = q
    · subst hiq
      rw [List.getElem?_set_self (by simp [wo, hi]), wo_at hi, he]
    · rw [List.getElem?_set_ne (Ne.symm hiq), wo_at hi, wo_at hi, ce_off (h i hiq)]
  · have h1 : ((wo L G σ).set q (G.2.2 q, e)).length ≤ i := by simp [wo]; omega
    have h2 : (wo L G σ').length ≤ i := by simp [wo]; omega
    rw [List.getElem?_eq_none h1, List.getElem?_eq_none h2]
theorem up_off {v : Int} : ∀ p, p ≠ q → ∀ i, up σ q k v p i = σ p i := by
  intro p hp i
  simp [up, hp]
theorem up_row {v : Int} : ∀ i, up σ q k v q i = if i = k then v else σ q i := by
  intro i
  simp [up]
theorem va_A_wo (sz : Nat) : va_A (wo L G σ) sz = AA L G sz := by
  funext a
  apply propext
  constructor
  · rintro (⟨i, e, h⟩ | h)
    · obtain ⟨hi, he⟩ := wo_get h
      exact Or.inl ⟨i, ce L G (fun _ _ => 0) i, by rw [wo_at hi]; rw [Prod.mk.injEq] at he; rw [he.1]⟩
    · exact Or.inr h
  · rintro (⟨i, e, h⟩ | h)
    · obtain ⟨hi, he⟩ := wo_get h
      exact Or.inl ⟨i, ce L G σ i, by rw [wo_at hi]; rw [Prod.mk.injEq] at he; rw [he.1]⟩
    · exact Or.inr h
theorem va_D_wo {A : Nat → Prop} (h : va_D A (wo L G σ)) : va_D A (wo L G σ') := by
  refine ⟨fun i j x y hi hj hxy => ?_, fun i x hi => ?_⟩
  · obtain ⟨li, rfl⟩ := wo_get hi
    obtain ⟨lj, rfl⟩ := wo_get hj
    exact h.1 i j _ _ (wo_at li) (wo_at lj) hxy
  · obtain ⟨li, rfl⟩ := wo_get hi
    exact h.2 i (G.2.2 i, ce L G σ i) (wo_at li)
theorem IR_up {v : Int} (h : ∀ q k, IR (σ q k)) (hv : IR v) : ∀ q' k', IR (up σ q k v q' k') := by
  intro q' k'
  unfold up
  split
  · exact hv
  · exact h q' k'
end Worlds
/-! ===== locals ===== -/
section Locals
variable {G : Gd} {ls : List (Option AV)} {lsA : Array Slot} {n i : Nat} {v : AV}
theorem lv_less {l l' : List (Nat × Value)} (h : lv_has lsA n l) (hs : ∀ q ∈ l', q ∈ l) : lv_has lsA n l' := ⟨h.1, h.2.1, fun q hq => h.2.2 q (hs q hq)⟩
theorem LVs_mem {x : Nat × Value} : x ∈ LVs G ls ↔ ∃ w, ls[x.1]? = some (some w) ∧ x.2 = cv G w := by
  unfold LVs
  rw [List.mem_filterMap]
  constructor
  · rintro ⟨j, hj, h⟩
    rw [List.mem_range] at hj
    cases hw : ls.getD j none with
    | none => rw [hw] at h; cases h
    | some w =>
      rw [hw] at h
      obtain rfl := Option.some.inj h
      refine ⟨w, ?_, rfl⟩
      rw [List.getD_eq_getElem?_getD, List.getElem?_eq_getElem hj] at hw
      rw [List.getElem?_eq_getElem hj]
      exact congrArg some hw
  · rintro ⟨w, h, h2⟩
    have hlt : x.1 < ls.length := (List.getElem?_eq_some_iff.mp h).1
    refine ⟨x.1, List.mem_range.mpr hlt, ?_⟩
    rw [List.getD_eq_getElem?_getD, h]
    show some (x.1, cv G w) = some x
    rw [← h2]
theorem lv_load (h : lv_has lsA n (LVs G ls)) (hi : ls[i]? = some (some v)) : lsA[i]? = some (.val (cv G v)) := h.2.2 (i, cv G v) (LVs_mem.mpr ⟨v, hi, rfl⟩)
def isL : AV → Bool
  | .inr (.inl _) => true
  | _ => false
/-- the place below i holds no long -/
def nlo (ls : List (Option AV)) : Nat → Bool
  | 0 => true
  | j + 1 => match ls.getD j none with
    | some w => !isL w
    | none => true
theorem cat_cv : (cv G v).category = if isL v then 2 else 1 := by
  rcases v with a | a | _ | a <;> rfl
theorem nlo_sp {j : Nat} {w : AV} (h : nlo ls i = true) (hj : j + 1 = i) (hw : ls[j]? = some (some w)) : isL w = false := by
  subst hj
  have h1 : (match ls.getD j none with
    | some w => !isL w
    | none => true) = true := h
  rw [List.getD_eq_getElem?_getD, hw] at h1
  simpa using h1
theorem LVs_store1 (hn : nlo ls i = true) : ∀ x ∈ LVs G (ls.set i (some v)), x ∈ (i, cv G v) :: (LVs G ls).filter (fun q => !(q.1 == i) && !(q.1 + 1 == i && q.2.category == 2)) := by
  intro x hx
  obtain ⟨w, h1, h2⟩ := LVs_mem.mp hx
  by_cases hxi : x.1 = i
  · rw [hxi] at h1
    have hlt : i < ls.length := by
      have := (List.getElem?_eq_some_iff.mp h1).1
      simpa using this
    rw [List.getElem?_set_self hlt] at h1
    obtain rfl := Option.some.inj (Option.some.inj h1)
    refine List.mem_cons.mpr (Or.inl ?_)
    rw [← hxi, ← h2]
  · rw [List.getElem?_set_ne (Ne.symm hxi)] at h1
    refine List.mem_cons.mpr (Or.inr (List.mem_filter.mpr ⟨LVs_mem.mpr ⟨w, h1, h2⟩, ?_⟩))
    by_cases h3 : x.1 + 1 = i
    · have h4 := nlo_sp hn h3 h1
      simp [hxi, h2, cat_cv, h4]
    · simp [hxi, h3]
theorem LVs_store2 (hn : nlo ls i = true) : ∀ x ∈ LVs G ((ls.set i (some v)).set (i + 1) none), x ∈ (i, cv G v) :: (LVs G ls).filter (fun q => !(q.1 == i) && (!(q.1 == i + 1) && !(q.1 + 1 == i && q.2.category == 2))) := by
  intro x hx
  obtain ⟨w, h1, h2⟩ := LVs_mem.mp hx
  have hx1 : x.1 ≠ i + 1 := by
    intro h3
    rw [h3] at h1
    have hlt : i + 1 < (ls.set i (some v)).length := by
      have := (List.getElem?_eq_some_iff.mp h1).1
      simpa using this
    rw [List.getElem?_set_self hlt] at h1
    cases Option.some.inj h1
  rw [List.getElem?_set_ne (Ne.symm hx1)] at h1
  by_cases hxi : x.1 = i
  · rw [hxi] at h1
    have hlt : i < ls.length := by
      have := (List.getElem?_eq_some_iff.mp h1).1
      simpa using this
    rw [List.getElem?_set_self hlt] at h1
    obtain rfl := Option.some.inj (Option.some.inj h1)
    refine List.mem_cons.mpr (Or.inl ?_)
    rw [← hxi, ← h2]
  · rw [List.getElem?_set_ne (Ne.symm hxi)] at h1
    refine List.mem_cons.mpr (Or.inr (List.mem_filter.mpr ⟨LVs_mem.mpr ⟨w, h1, h2⟩, ?_⟩))
    by_cases h3 : x.1 + 1 = i
    · have h4 := nlo_sp hn h3 h1
      simp [hxi, hx1, h2, cat_cv, h4]
    · simp [hxi, hx1, h3]
theorem OKS_set {st st' : List AV} {σ : SS} (h : OKS ls st σ) (hv : okv v) (hs : ∀ w ∈ st', okv w) : OKS (ls.set i (some v)) st' σ := by
  refine ⟨fun w hw => ?_, hs, h.2.2⟩
  rcases List.mem_or_eq_of_mem_set hw with h1 | h1
  · exact h.1 w h1
  · obtain rfl := Option.some.inj h1
    exact hv
end Locals
end
section
/-! ===== the rules: an instruction each ===== -/
def i_and (a b : Int) : Int := (Int32.ofInt a &&& Int32.ofInt b).toInt
def i_or (a b : Int) : Int := (Int32.ofInt a ||| Int32.ofInt b).toInt
def i_shl (a b : Int) : Int := (Int32.ofInt a <<< (Int32.ofInt b &&& 31)).toInt
def i_shr (a b : Int) : Int := (Int32.ofInt a >>> (Int32.ofInt b &&& 31)).toInt
def i_b (a : Int) : Int := (Int32.ofInt a).toInt8.toInt32.toInt
def i_s (a : Int) : Int := (Int32.ofInt a).toInt16.toInt32.toInt
def l_cmp (a b : Int) : Int := if b < a then 1 else if a = b then 0 else -1
/-- a field of an object: the link of class 'own', the c-th class, its k-th field -/
def FK (own : String) (idx ci k : Nat) : Prop := ∃ (C : String) (T : u_T) (N : Nat) (ty : Nat → FieldType), vwCl[ci]? = some (C, T, N) ∧ k < N ∧ Cond.fieldLink own idx C (T k).2.1 (T k).2.2.1 ∈ gtb ∧ (∀ w ∈ u_ws C T N, w ∈ gtb) ∧ (T k).1 = C ∧ (∀ k, k < N → parseFieldDescriptor (T k).2.2.1 = some (ty k)) ∧ (∀ a, a < N → ∀ b, b < N → a ≠ b → (T a).2.1 ≠ (T b).2.1)
/-- it isn't final, and its type -/
def FT (ci k : Nat) (t : FieldType) : Prop := ∀ (C : String) (T : u_T) (N : Nat), vwCl[ci]? = some (C, T, N) → (T k).2.2.2 = false ∧ parseFieldDescriptor (T k).2.2.1 = some t
/-- an object of the c-th class at a place -/
def PL (L : Lay) (q ci : Nat) : Prop := q < L.1 ∧ L.2.1 q = 3 + ci ∧ ∀ (C : String) (T : u_T) (N : Nat), vwCl[ci]? = some (C, T, N) → L.2.2.1 q = N
def AR (L : Lay) (q t n : Nat) : Prop := q < L.1 ∧ L.2.1 q = t ∧ L.2.2.1 q = n
/-- what the tables say of a method -/
def MK (M : MI) (n : Nat) : Prop := Cond.code M.1 M.2.1 M.2.2.1 M.2.2.2.1 ∈ gtb ∧ Cond.initialized M.1.cls ∈ gtb ∧ (M.1.cls ≠ "java/lang/invoke/MethodHandle" ∧ M.1.cls ≠ "java/lang/invoke/VarHandle" ∧ (parseMethodDescriptor M.1.desc).map (fun d => d.parameters.length) = some n) ∧ M.2.2.2.2.cells = 0 ∧ M.2.2.2.2.slots = 0
def MV (M : MI) : Prop := Cond.instanceMethod M.1 ∈ gtb ∧ Cond.selects M.1.cls M.1 M.1 ∈ gtb
def RF (M2 M : MI) : Prop := M2.2.2.2.2.frames + 1 ≤ M.2.2.2.2.frames ∧ 8 + (M2.2.2.1 + 11) + M2.2.2.2.2.locals ≤ M.2.2.2.2.locals
theorem lw_good : ∀ w ∈ gtb, (w.onTables && w.keeps) = true ∨ ∃ ty, w = .arrayClass ty := fun w hw => good_of_word (List.mem_filter.mp hw).2
theorem gtb_in {w : Cond} (i : Nat) (h : lw_tbl[i]? = some w) (hg : goodWord w = true) : w ∈ gtb := List.mem_filter.mpr ⟨List.mem_of_getElem? h, hg⟩
theorem good_M {M : MI} {n : Nat} (h : MK M n) : GoodIn gtb (wsM M) := by
  intro w hw
  rcases List.mem_cons.mp hw with rfl | hw
  · exact ⟨h.1, lw_good _ h.1⟩
  · exact ⟨hw, lw_good _ hw⟩
section Rules
variable {L : Lay} {M : MI} {r : Option AV × SS} {pc : Nat} {ls : List (Option AV)} {st : List AV} {σ : SS}
theorem ok_push {v : AV} {st0 : List AV} (h : OKS ls st0 σ) (hs : ∀ w ∈ st, w ∈ st0) (hv : okv v) : OKS ls (v :: st) σ := ⟨h.1, fun w hw => by
  rcases List.mem_cons.mp hw with rfl | hw
  · exact hv
  · exact h.2.1 w (hs w hw), h.2.2⟩
theorem ok_drop {st0 : List AV} (h : OKS ls st0 σ) (hs : ∀ w ∈ st, w ∈ st0) : OKS ls st σ := ⟨h.1, fun w hw => h.2.1 w (hs w hw), h.2.2⟩
theorem ok_up {st0 : List AV} {q k : Nat} {v : Int} (h : OKS ls st0 σ) (hs : ∀ w ∈ st, w ∈ st0) (hv : IR v) : OKS ls st (up σ q k v) := ⟨h.1, fun w hw => h.2.1 w (hs w hw), IR_up h.2.2 hv⟩
theorem in_1 {x : AV} : ∀ w ∈ st, w ∈ x :: st := fun _ h => List.mem_cons_of_mem _ h
theorem in_2 {x y : AV} : ∀ w ∈ st, w ∈ x :: y :: st := fun _ h => List.mem_cons_of_mem _ (List.mem_cons_of_mem _ h)
theorem in_3 {x y z : AV} : ∀ w ∈ st, w ∈ x :: y :: z :: st := fun _ h => List.mem_cons_of_mem _ (List.mem_cons_of_mem _ (List.mem_cons_of_mem _ h))
theorem at_0 {x : AV} (h : OKS ls (x :: st) σ) : okv x := h.2.1 _ List.mem_cons_self
theorem at_1 {x y : AV} (h : OKS ls (x :: y :: st) σ) : okv y := h.2.1 _ (List.mem_cons_of_mem _ List.mem_cons_self)
theorem at_2 {x y z : AV} (h : OKS ls (x :: y :: z :: st) σ) : okv z := h.2.1 _ (List.mem_cons_of_mem _ (List.mem_cons_of_mem _ List.mem_cons_self))
-- constants
theorem aw_iconst {n : Int} (hd : decode M.2.1 pc = .ok (.iconst n, 1)) (hn : IR n) (k : AW L M r (pc + 1) ls (vI n :: st) σ) : AW L M r pc ls st σ := by
  intro p l e s m args below meth c G H locs lsA hX hW hO hl
  exact lv_iconst hX.1 hX.2.1 hd rfl (k p l e s m args below meth c G H locs lsA hX hW (ok_push hO (fun _ h => h) hn) hl)
theorem aw_bipush {n : Int} (hd : decode M.2.1 pc = .ok (.bipush n, 2)) (hn : IR n) (hv : (Int8.ofInt n).toInt32 = Int32.ofInt n) (k : AW L M r (pc + 2) ls (vI n :: st) σ) : AW L M r pc ls st σ := by
  intro p l e s m args below meth c G H locs lsA hX hW hO hl
  exact lv_bipush hX.1 hX.2.1 hd hv (k p l e s m args below meth c G H locs lsA hX hW (ok_push hO (fun _ h => h) hn) hl)
theorem aw_sipush {n : Int} (hd : decode M.2.1 pc = .ok (.sipush n, 3)) (hn : IR n) (hv : (Int16.ofInt n).toInt32 = Int32.ofInt n) (k : AW L M r (pc + 3) ls (vI n :: st) σ) : AW L M r pc ls st σ := by
  intro p l e s m args below meth c G H locs lsA hX hW hO hl
  exact lv_sipush hX.1 hX.2.1 hd hv (k p l e s m args below meth c G H locs lsA hX hW (ok_push hO (fun _ h => h) hn) hl)
theorem aw_ldc {n : Int} {v : Int32} {idx : Nat} (hd : decode M.2.1 pc = .ok (.ldc idx, 2)) (hw : Cond.constant M.1.cls idx v ∈ gtb) (hn : IR n) (hv : v = Int32.ofInt n) (k : AW L M r (pc + 2) ls (vI n :: st) σ) : AW L M r pc ls st σ := by
  intro p l e s m args below meth c G H locs lsA hX hW hO hl
  subst hv
  exact lv_ldc hX.1 hX.2.1 hX.2.2.2.2.2.1 (hX.2.2.2.2.2.2.1 _ hw) hd (k p l e s m args below meth c G H locs lsA hX hW (ok_push hO (fun _ h => h) hn) hl)
theorem aw_ldcw {n : Int} {v : Int32} {idx : Nat} (hd : decode M.2.1 pc = .ok (.ldc_w idx, 3)) (hw : Cond.constant M.1.cls idx v ∈ gtb) (hn : IR n) (hv : v = Int32.ofInt n) (k : AW L M r (pc + 3) ls (vI n :: st) σ) : AW L M r pc ls st σ := by
  intro p l e s m args below meth c G H locs lsA hX hW hO hl
  subst hv
  exact lv_ldcw hX.1 hX.2.1 hX.2.2.2.2.2.1 (hX.2.2.2.2.2.2.1 _ hw) hd (k p l e s m args below meth c G H locs lsA hX hW (ok_push hO (fun _ h => h) hn) hl)
theorem aw_ldc2 {n : Int} {v : Int64} {idx : Nat} (hd : decode M.2.1 pc = .ok (.ldc2_w idx, 3)) (hw : Cond.constantLong M.1.cls idx v ∈ gtb) (hn : LR n) (hv : v = Int64.ofInt n) (k : AW L M r (pc + 3) ls (vL n :: st) σ) : AW L M r pc ls st σ := by
  intro p l e s m args below meth c G H locs lsA hX hW hO hl
  subst hv
  exact lv_ldc2 hX.1 hX.2.1 hX.2.2.2.2.2.1 (hX.2.2.2.2.2.2.1 _ hw) hd (k p l e s m args below meth c G H locs lsA hX hW (ok_push (v := vL n) hO (fun _ h => h) hn) hl)
theorem aw_null (hd : decode M.2.1 pc = .ok (.aconst_null, 1)) (k : AW L M r (pc + 1) ls (vR none :: st) σ) : AW L M r pc ls st σ := by
  intro p l e s m args below meth c G H locs lsA hX hW hO hl
  exact lv_null hX.1 hX.2.1 hd (k p l e s m args below meth c G H locs lsA hX hW (ok_push (v := vR none) hO (fun _ h => h) trivial) hl)
-- locals
theorem ok_ls {i : Nat} {v : AV} (h : OKS ls st σ) (hl : ls[i]? = some (some v)) : okv v := h.1 v (List.mem_of_getElem? hl)
theorem aw_iload_n {j : Fin 4} {i : Nat} {a : Int} (hd : decode M.2.1 pc = .ok (.iload_n j, 1)) (hi : (j : Nat) = i) (hl : ls[i]? = some (some (vI a))) (k : AW L M r (pc + 1) ls (vI a :: st) σ) : AW L M r pc ls st σ := by
  intro p l e s m args below meth c G H locs lsA hX hW hO hv
  exact lv_iload_n hX.1 hX.2.1 hd hi (lv_load hv hl) (k p l e s m args below meth c G H locs lsA hX hW (ok_push hO (fun _ h => h) (ok_ls hO hl)) hv)
theorem aw_iload {i : Nat} {a : Int} (hd : decode M.2.1 pc = .ok (.iload i, 2)) (hl : ls[i]? = some (some (vI a))) (k : AW L M r (pc + 2) ls (vI a :: st) σ) : AW L M r pc ls st σ := by
  intro p l e s m args below meth c G H locs lsA hX hW hO hv
  exact lv_iload hX.1 hX.2.1 hd (lv_load hv hl) (k p l e s m args below meth c G H locs lsA hX hW (ok_push hO (fun _ h => h) (ok_ls hO hl)) hv)
theorem aw_lload_n {j : Fin 4} {i : Nat} {a : Int} (hd : decode M.2.1 pc = .ok (.lload_n j, 1)) (hi : (j : Nat) = i) (hl : ls[i]? = some (some (vL a))) (k : AW L M r (pc + 1) ls (vL a :: st) σ) : AW L M r pc ls st σ := by
  intro p l e s m args below meth c G H locs lsA hX hW hO hv
  exact lv_lload_n hX.1 hX.2.1 hd hi (lv_load hv hl) (k p l e s m args below meth c G H locs lsA hX hW (ok_push hO (fun _ h => h) (ok_ls hO hl)) hv)
theorem aw_lload {i : Nat} {a : Int} (hd : decode M.2.1 pc = .ok (.lload i, 2)) (hl : ls[i]? = some (some (vL a))) (k : AW L M r (pc + 2) ls (vL a :: st) σ) : AW L M r pc ls st σ := by
  intro p l e s m args below meth c G H locs lsA hX hW hO hv
  exact lv_lload hX.1 hX.2.1 hd (lv_load hv hl) (k p l e s m args below meth c G H locs lsA hX hW (ok_push hO (fun _ h => h) (ok_ls hO hl)) hv)
theorem aw_aload_n {j : Fin 4} {i : Nat} {a : Option Nat} (hd : decode M.2.1 pc = .ok (.aload_n j, 1)) (hi : (j : Nat) = i) (hl : ls[i]? = some (some (vR a))) (k : AW L M r (pc + 1) ls (vR a :: st) σ) : AW L M r pc ls st σ := by
  intro p l e s m args below meth c G H locs lsA hX hW hO hv
  have K := k p l e s m args below meth c G H locs lsA hX hW (ok_push hO (fun _ h => h) (ok_ls hO hl)) hv
  cases a with
  | none => exact lv_aload_nN hX.1 hX.2.1 hd hi (lv_load hv hl) K
  | some q => exact lv_aload_n hX.1 hX.2.1 hd hi (lv_load hv hl) K
theorem aw_aload {i : Nat} {a : Option Nat} (hd : decode M.2.1 pc = .ok (.aload i, 2)) (hl : ls[i]? = some (some (vR a))) (k : AW L M r (pc + 2) ls (vR a :: st) σ) : AW L M r pc ls st σ := by
  intro p l e s m args below meth c G H locs lsA hX hW hO hv
  have K := k p l e s m args below meth c G H locs lsA hX hW (ok_push hO (fun _ h => h) (ok_ls hO hl)) hv
  cases a with
  | none => exact lv_aloadN hX.1 hX.2.1 hd (lv_load hv hl) K
  | some q => exact lv_aload hX.1 hX.2.1 hd (lv_load hv hl) K
theorem aw_istore_n {j : Fin 4} {i : Nat} {a : Int} (hd : decode M.2.1 pc = .ok (.istore_n j, 1)) (hi : (j : Nat) = i) (hn : i < M.2.2.1) (hb : nlo ls i = true) (k : ∀ x, x = a → AW L M r (pc + 1) (ls.set i (some (vI x))) st σ) : AW L M r pc ls (vI a :: st) σ := by
  intro p l e s m args below meth c G H locs lsA hX hW hO hv
  exact lv_istore_n hX.1 hX.2.1 hd hi hv hn rfl (fun ls' hl' => k a rfl p l e s m args below meth c G H locs ls' hX hW (OKS_set hO (at_0 hO) (fun w hw => hO.2.1 w (in_1 w hw))) (lv_less hl' (LVs_store1 (v := vI a) hb)))
theorem aw_istore {i : Nat} {a : Int} (hd : decode M.2.1 pc = .ok (.istore i, 2)) (hn : i < M.2.2.1) (hb : nlo ls i = true) (k : ∀ x, x = a → AW L M r (pc + 2) (ls.set i (some (vI x))) st σ) : AW L M r pc ls (vI a :: st) σ := by
  intro p l e s m args below meth c G H locs lsA hX hW hO hv
  exact lv_istore hX.1 hX.2.1 hd hv hn rfl (fun ls' hl' => k a rfl p l e s m args below meth c G H locs ls' hX hW (OKS_set hO (at_0 hO) (fun w hw => hO.2.1 w (in_1 w hw))) (lv_less hl' (LVs_store1 (v := vI a) hb)))
theorem OKS_set2 {st' : List AV} {i : Nat} {v : AV} (h : OKS ls st σ) (hv : okv v) (hs : ∀ w ∈ st', okv w) : OKS ((ls.set i (some v)).set (i + 1) none) st' σ := by
  refine ⟨fun w hw => ?_, hs, h.2.2⟩
  rcases List.mem_or_eq_of_mem_set hw with h1 | h1
  · rcases List.mem_or_eq_of_mem_set h1 with h1 | h1
    · exact h.1 w h1
    · obtain rfl := Option.some.inj h1
      exact hv
  · cases h1
theorem aw_lstore_n {j : Fin 4} {i : Nat} {a : Int} (hd : decode M.2.1 pc = .ok (.lstore_n j, 1)) (hi : (j : Nat) = i) (hn : i + 1 < M.2.2.1) (hb : nlo ls i = true) (k : ∀ x, x = a → AW L M r (pc + 1) ((ls.set i (some (vL x))).set (i + 1) none) st σ) : AW L M r pc ls (vL a :: st) σ := by
  intro p l e s m args below meth c G H locs lsA hX hW hO hv
  exact lv_lstore_n hX.1 hX.2.1 hd hi hv hn rfl (fun ls' hl' => k a rfl p l e s m args below meth c G H locs ls' hX hW (OKS_set2 hO (at_0 hO) (fun w hw => hO.2.1 w (in_1 w hw))) (lv_less hl' (LVs_store2 (v := vL a) hb)))
theorem aw_lstore {i : Nat} {a : Int} (hd : decode M.2.1 pc = .ok (.lstore i, 2)) (hn : i + 1 < M.2.2.1) (hb : nlo ls i = true) (k : ∀ x, x = a → AW L M r (pc + 2) ((ls.set i (some (vL x))).set (i + 1) none) st σ) : AW L M r pc ls (vL a :: st) σ := by
  intro p l e s m args below meth c G H locs lsA hX hW hO hv
  exact lv_lstore hX.1 hX.2.1 hd hv hn rfl (fun ls' hl' => k a rfl p l e s m args below meth c G H locs ls' hX hW (OKS_set2 hO (at_0 hO) (fun w hw => hO.2.1 w (in_1 w hw))) (lv_less hl' (LVs_store2 (v := vL a) hb)))
theorem aw_astore_n {j : Fin 4} {i : Nat} {a : Option Nat} (hd : decode M.2.1 pc = .ok (.astore_n j, 1)) (hi : (j : Nat) = i) (hn : i < M.2.2.1) (hb : nlo ls i = true) (k : AW L M r (pc + 1) (ls.set i (some (vR a))) st σ) : AW L M r pc ls (vR a :: st) σ := by
  intro p l e s m args below meth c G H locs lsA hX hW hO hv
  cases a with
  | none => exact lv_astore_nN hX.1 hX.2.1 hd hi hv hn rfl (fun ls' hl' => k p l e s m args below meth c G H locs ls' hX hW (OKS_set hO (at_0 hO) (fun w hw => hO.2.1 w (in_1 w hw))) (lv_less hl' (LVs_store1 (v := vR none) hb)))
  | some q => exact lv_astore_n hX.1 hX.2.1 hd hi hv hn rfl (fun ls' hl' => k p l e s m args below meth c G H locs ls' hX hW (OKS_set hO (at_0 hO) (fun w hw => hO.2.1 w (in_1 w hw))) (lv_less hl' (LVs_store1 (v := vR (some q)) hb)))
theorem aw_astore {i : Nat} {a : Option Nat} (hd : decode M.2.1 pc = .ok (.astore i, 2)) (hn : i < M.2.2.1) (hb : nlo ls i = true) (k : AW L M r (pc + 2) (ls.set i (some (vR a))) st σ) : AW L M r pc ls (vR a :: st) σ := by
  intro p l e s m args below meth c G H locs lsA hX hW hO hv
  cases a with
  | none => exact lv_astoreN hX.1 hX.2.1 hd hv hn rfl (fun ls' hl' => k p l e s m args below meth c G H locs ls' hX hW (OKS_set hO (at_0 hO) (fun w hw => hO.2.1 w (in_1 w hw))) (lv_less hl' (LVs_store1 (v := vR none) hb)))
  | some q => exact lv_astore hX.1 hX.2.1 hd hv hn rfl (fun ls' hl' => k p l e s m args below meth c G H locs ls' hX hW (OKS_set hO (at_0 hO) (fun w hw => hO.2.1 w (in_1 w hw))) (lv_less hl' (LVs_store1 (v := vR (some q)) hb)))
theorem aw_iinc {i : Nat} {n a : Int} (hd : decode M.2.1 pc = .ok (.iinc i n, 3)) (hl : ls[i]? = some (some (vI a))) (hn : i < M.2.2.1) (hb : nlo ls i = true) (k : ∀ x, x = wr (a + n) → AW L M r (pc + 3) (ls.set i (some (vI x))) st σ) : AW L M r pc ls st σ := by
  intro p l e s m args below meth c G H locs lsA hX hW hO hv
  obtain ⟨j, hj⟩ := List.getElem?_of_mem (LVs_mem (G := G) (x := (i, cv G (vI a))).mpr ⟨vI a, hl, rfl⟩)
  refine lv_iinc (v := Int32.ofInt (wr (a + n))) hX.1 hX.2.1 hd hv hj ?_ hn rfl (fun ls' hl' => k _ rfl p l e s m args below meth c G H locs ls' hX hW (OKS_set hO (IR_wr _) hO.2.1) (lv_less hl' (LVs_store1 (v := vI (wr (a + n))) hb)))
  rw [of_wr, oi_add]
/-- what is no longer wanted of the locals -/
def lsle : List (Option AV) → List (Option AV) → Prop
  | [], _ => True
  | none :: a, _ :: b => lsle a b
  | some v :: a, w :: b => w = some v ∧ lsle a b
  | none :: a, [] => lsle a []
  | some _ :: _, [] => False
theorem lsle_sp : ∀ {a b : List (Option AV)}, lsle a b → ∀ (i : Nat) (v : AV), a[i]? = some (some v) → b[i]? = some (some v)
  | [], _, _, i, v, h => by simp at h
  | none :: a, [], hl, 0, v, h => by simp at h
  | none :: a, [], hl, i + 1, v, h => by
      have := lsle_sp (a := a) (b := []) hl i v (by simpa using h)
      simp at this
  | none :: a, w :: b, hl, 0, v, h => by simp at h
  | none :: a, w :: b, hl, i + 1, v, h => by
      have := lsle_sp (a := a) (b := b) hl i v (by simpa using h)
      simpa using this
  | some u :: a, [], hl, i, v, h => by cases hl
  | some u :: a, w :: b, hl, 0, v, h => by
      obtain ⟨rfl, _⟩ := hl
      simpa using h
  | some u :: a, w :: b, hl, i + 1, v, h => by
      have := lsle_sp (a := a) (b := b) hl.2 i v (by simpa using h)
      simpa using this
theorem aw_less {ls' : List (Option AV)} (h : lsle ls' ls) (k : AW L M r pc ls' st σ) : AW L M r pc ls st σ := by
  intro p l e s m args below meth c G H locs lsA hX hW hO hv
  refine k p l e s m args below meth c G H locs lsA hX hW ⟨fun v hv' => ?_, hO.2.1, hO.2.2⟩ (lv_less hv (fun x hx => ?_))
  · obtain ⟨i, hi⟩ := List.getElem?_of_mem hv'
    exact hO.1 v (List.mem_of_getElem? (lsle_sp h i v hi))
  · obtain ⟨w, h1, h2⟩ := LVs_mem.mp hx
    exact LVs_mem.mpr ⟨w, lsle_sp h x.1 w h1, h2⟩
-- arithmetic
theorem aw_iadd {a b : Int} (hd : decode M.2.1 pc = .ok (.iadd, 1)) (k : AW L M r (pc + 1) ls (vI (wr (a + b)) :: st) σ) : AW L M r pc ls (vI b :: vI a :: st) σ := by
  intro p l e s m args below meth c G H locs lsA hX hW hO hv
  have K := k p l e s m args below meth c G H locs lsA hX hW (ok_push hO in_2 (IR_wr _)) hv
  simp only [List.map_cons, cv, of_wr, ← oi_add] at K
  exact lv_iadd hX.1 hX.2.1 hd K
theorem aw_isub {a b : Int} (hd : decode M.2.1 pc = .ok (.isub, 1)) (k : AW L M r (pc + 1) ls (vI (wr (a - b)) :: st) σ) : AW L M r pc ls (vI b :: vI a :: st) σ := by
  intro p l e s m args below meth c G H locs lsA hX hW hO hv
  have K := k p l e s m args below meth c G H locs lsA hX hW (ok_push hO in_2 (IR_wr _)) hv
  simp only [List.map_cons, cv, of_wr, ← oi_sub] at K
  exact lv_isub hX.1 hX.2.1 hd K
theorem aw_imul {a b : Int} (hd : decode M.2.1 pc = .ok (.imul, 1)) (k : AW L M r (pc + 1) ls (vI (wr (a * b)) :: st) σ) : AW L M r pc ls (vI b :: vI a :: st) σ := by
  intro p l e s m args below meth c G H locs lsA hX hW hO hv
  have K := k p l e s m args below meth c G H locs lsA hX hW (ok_push hO in_2 (IR_wr _)) hv
  simp only [List.map_cons, cv, of_wr, ← oi_mul] at K
  exact lv_imul hX.1 hX.2.1 hd K
theorem aw_iand {a b : Int} (hd : decode M.2.1 pc = .ok (.iand, 1)) (k : AW L M r (pc + 1) ls (vI (i_and a b) :: st) σ) : AW L M r pc ls (vI b :: vI a :: st) σ := by
  intro p l e s m args below meth c G H locs lsA hX hW hO hv
  have K := k p l e s m args below meth c G H locs lsA hX hW (ok_push hO in_2 (IR_32 _)) hv
  simp only [List.map_cons, cv, i_and, Int32.ofInt_toInt] at K
  exact lv_iand hX.1 hX.2.1 hd K
theorem aw_ior {a b : Int} (hd : decode M.2.1 pc = .ok (.ior, 1)) (k : AW L M r (pc + 1) ls (vI (i_or a b) :: st) σ) : AW L M r pc ls (vI b :: vI a :: st) σ := by
  intro p l e s m args below meth c G H locs lsA hX hW hO hv
  have K := k p l e s m args below meth c G H locs lsA hX hW (ok_push hO in_2 (IR_32 _)) hv
  simp only [List.map_cons, cv, i_or, Int32.ofInt_toInt] at K
  exact lv_ior hX.1 hX.2.1 hd K
theorem aw_ishl {a b : Int} (hd : decode M.2.1 pc = .ok (.ishl, 1)) (k : AW L M r (pc + 1) ls (vI (i_shl a b) :: st) σ) : AW L M r pc ls (vI b :: vI a :: st) σ := by
  intro p l e s m args below meth c G H locs lsA hX hW hO hv
  have K := k p l e s m args below meth c G H locs lsA hX hW (ok_push hO in_2 (IR_32 _)) hv
  simp only [List.map_cons, cv, i_shl, Int32.ofInt_toInt] at K
  exact lv_ishl hX.1 hX.2.1 hd K
theorem aw_ishr {a b : Int} (hd : decode M.2.1 pc = .ok (.ishr, 1)) (k : AW L M r (pc + 1) ls (vI (i_shr a b) :: st) σ) : AW L M r pc ls (vI b :: vI a :: st) σ := by
  intro p l e s m args below meth c G H locs lsA hX hW hO hv
  have K := k p l e s m args below meth c G H locs lsA hX hW (ok_push hO in_2 (IR_32 _)) hv
  simp only [List.map_cons, cv, i_shr, Int32.ofInt_toInt] at K
  exact lv_ishr hX.1 hX.2.1 hd K
theorem aw_i2b {a : Int} (hd : decode M.2.1 pc = .ok (.i2b, 1)) (k : AW L M r (pc + 1) ls (vI (i_b a) :: st) σ) : AW L M r pc ls (vI a :: st) σ := by
  intro p l e s m args below meth c G H locs lsA hX hW hO hv
  have K := k p l e s m args below meth c G H locs lsA hX hW (ok_push hO in_1 (IR_32 _)) hv
  simp only [List.map_cons, cv, i_b, Int32.ofInt_toInt] at K
  exact lv_i2b hX.1 hX.2.1 hd rfl K
theorem aw_i2s {a : Int} (hd : decode M.2.1 pc = .ok (.i2s, 1)) (k : AW L M r (pc + 1) ls (vI (i_s a) :: st) σ) : AW L M r pc ls (vI a :: st) σ := by
  intro p l e s m args below meth c G H locs lsA hX hW hO hv
  have K := k p l e s m args below meth c G H locs lsA hX hW (ok_push hO in_1 (IR_32 _)) hv
  simp only [List.map_cons, cv, i_s, Int32.ofInt_toInt] at K
  exact lv_i2s hX.1 hX.2.1 hd rfl K
theorem aw_i2l {a : Int} (hd : decode M.2.1 pc = .ok (.i2l, 1)) (k : AW L M r (pc + 1) ls (vL a :: st) σ) : AW L M r pc ls (vI a :: st) σ := by
  intro p l e s m args below meth c G H locs lsA hX hW hO hv
  have ha : IR a := at_0 hO
  have ha2 : LR a := ⟨by have := ha.1; omega, by have := ha.2; omega⟩
  have K := k p l e s m args below meth c G H locs lsA hX hW (ok_push (v := vL a) hO in_1 ha2) hv
  refine lv_i2l hX.1 hX.2.1 hd ?_ K
  apply Int64.toInt_inj.mp
  rw [Int32.toInt_toInt64, ti_of ha, tl_of ha2]
theorem aw_ladd {a b : Int} (hd : decode M.2.1 pc = .ok (.ladd, 1)) (k : AW L M r (pc + 1) ls (vL (wl (a + b)) :: st) σ) : AW L M r pc ls (vL b :: vL a :: st) σ := by
  intro p l e s m args below meth c G H locs lsA hX hW hO hv
  have K := k p l e s m args below meth c G H locs lsA hX hW (ok_push (v := vL (wl (a + b))) hO in_2 (LR_wl _)) hv
  simp only [List.map_cons, cv, of_wl, ← ol_add] at K
  exact lv_ladd hX.1 hX.2.1 hd K
theorem aw_lmul {a b : Int} (hd : decode M.2.1 pc = .ok (.lmul, 1)) (k : AW L M r (pc + 1) ls (vL (wl (a * b)) :: st) σ) : AW L M r pc ls (vL b :: vL a :: st) σ := by
  intro p l e s m args below meth c G H locs lsA hX hW hO hv
  have K := k p l e s m args below meth c G H locs lsA hX hW (ok_push (v := vL (wl (a * b))) hO in_2 (LR_wl _)) hv
  simp only [List.map_cons, cv, of_wl, ← ol_mul] at K
  exact lv_lmul hX.1 hX.2.1 hd K
theorem aw_lcmp {a b : Int} (hd : decode M.2.1 pc = .ok (.lcmp, 1)) (k : AW L M r (pc + 1) ls (vI (l_cmp a b) :: st) σ) : AW L M r pc ls (vL b :: vL a :: st) σ := by
  intro p l e s m args below meth c G H locs lsA hX hW hO hv
  have ha : LR a := at_1 hO
  have hb : LR b := at_0 hO
  have K := k p l e s m args below meth c G H locs lsA hX hW (ok_push hO in_2 (by show IR (l_cmp a b); unfold l_cmp IR; split <;> (try split) <;> decide)) hv
  have e1 : Int32.ofInt (l_cmp a b) = lg_cmp (Int64.ofInt a) (Int64.ofInt b) := by
    unfold l_cmp lg_cmp
    have h1 : Int64.ofInt b < Int64.ofInt a ↔ b < a := by rw [Int64.lt_iff_toInt_lt, tl_of ha, tl_of hb]
    have h2 : Int64.ofInt a = Int64.ofInt b ↔ a = b := by rw [← Int64.toInt_inj, tl_of ha, tl_of hb]
    simp only [h1, h2]
    split
    · rfl
    · split <;> rfl
  simp only [List.map_cons, cv, e1] at K
  exact W.lcmp hX.1 hX.2.1 hd K
-- the stack
theorem aw_dup {v : AV} (hd : decode M.2.1 pc = .ok (.dup, 1)) (hv : isL v = false) (k : AW L M r (pc + 1) ls (v :: v :: st) σ) : AW L M r pc ls (v :: st) σ := by
  intro p l e s m args below meth c G H locs lsA hX hW hO hl
  exact lv_dup hX.1 hX.2.1 hd (by rw [cat_cv, hv]; rfl) (k p l e s m args below meth c G H locs lsA hX hW (ok_push hO (fun _ h => h) (at_0 hO)) hl)
theorem aw_pop {v : AV} (hd : decode M.2.1 pc = .ok (.pop, 1)) (hv : isL v = false) (k : AW L M r (pc + 1) ls st σ) : AW L M r pc ls (v :: st) σ := by
  intro p l e s m args below meth c G H locs lsA hX hW hO hl
  exact lv_pop hX.1 hX.2.1 hd (by rw [cat_cv, hv]; rfl) (k p l e s m args below meth c G H locs lsA hX hW (ok_drop hO in_1) hl)
theorem aw_dup2 {v w : AV} (hd : decode M.2.1 pc = .ok (.dup2, 1)) (hv : isL v = false) (hw : isL w = false) (k : AW L M r (pc + 1) ls (v :: w :: v :: w :: st) σ) : AW L M r pc ls (v :: w :: st) σ := by
  intro p l e s m args below meth c G H locs lsA hX hW hO hl
  exact lv_dup2_11 hX.1 hX.2.1 hd (by rw [cat_cv, hv]; rfl) (by rw [cat_cv, hw]; rfl) (k p l e s m args below meth c G H locs lsA hX hW (ok_push (ok_push hO (fun _ h => h) (at_1 hO)) (fun _ h => h) (at_0 hO)) hl)
end Rules
end
section
/-! ===== the rules: branches, fields, rows, calls, ends ===== -/
section Rules2
variable {L : Lay} {M : MI} {r : Option AV × SS} {pc : Nat} {ls : List (Option AV)} {st : List AV} {σ : SS}
theorem aw_icmp_eq {a b off : Int} {tgt : Nat} (hd : decode M.2.1 pc = .ok (.if_icmp .eq off, 3)) (ht : (pc : Int) + off = (tgt : Int)) (kt : a = b → AW L M r tgt ls st σ) (kf : ¬ a = b → AW L M r (pc + 3) ls st σ) : AW L M r pc ls (vI b :: vI a :: st) σ := by
  intro p l e s m args below meth c G H locs lsA hX hW hO hv
  have ha : IR a := at_1 hO
  have hb : IR b := at_0 hO
  have kt' := fun h => kt h p l e s m args below meth c G H locs lsA hX hW (ok_drop hO in_2) hv
  have kf' := fun h => kf h p l e s m args below meth c G H locs lsA hX hW (ok_drop hO in_2) hv
  exact lv_icmp_eq hX.1 hX.2.1 hd ht (fun h => kt' ((oi_eq ha hb).mp h)) (fun h => kf' (fun q => h ((oi_eq ha hb).mpr q)))
theorem aw_if_eq {a off : Int} {tgt : Nat} (hd : decode M.2.1 pc = .ok (.ifCond .eq off, 3)) (ht : (pc : Int) + off = (tgt : Int)) (kt : a = 0 → AW L M r tgt ls st σ) (kf : ¬ a = 0 → AW L M r (pc + 3) ls st σ) : AW L M r pc ls (vI a :: st) σ := by
  intro p l e s m args below meth c G H locs lsA hX hW hO hv
  have ha : IR a := at_0 hO
  have hb : IR 0 := IR_0
  have kt' := fun h => kt h p l e s m args below meth c G H locs lsA hX hW (ok_drop hO in_1) hv
  have kf' := fun h => kf h p l e s m args below meth c G H locs lsA hX hW (ok_drop hO in_1) hv
  exact lv_if_eq hX.1 hX.2.1 hd ht (fun h => kt' ((oi_eq ha hb).mp h)) (fun h => kf' (fun q => h ((oi_eq ha hb).mpr q)))
theorem aw_icmp_ne {a b off : Int} {tgt : Nat} (hd : decode M.2.1 pc = .ok (.if_icmp .ne off, 3)) (ht : (pc : Int) + off = (tgt : Int)) (kt : ¬ a = b → AW L M r tgt ls st σ) (kf : a = b → AW L M r (pc + 3) ls st σ) : AW L M r pc ls (vI b :: vI a :: st) σ := by
  intro p l e s m args below meth c G H locs lsA hX hW hO hv
  have ha : IR a := at_1 hO
  have hb : IR b := at_0 hO
  have kt' := fun h => kt h p l e s m args below meth c G H locs lsA hX hW (ok_drop hO in_2) hv
  have kf' := fun h => kf h p l e s m args below meth c G H locs lsA hX hW (ok_drop hO in_2) hv
  exact lv_icmp_ne hX.1 hX.2.1 hd ht (fun h => kt' (fun q => h ((oi_eq ha hb).mpr q))) (fun h => kf' ((oi_eq ha hb).mp h))
theorem aw_if_ne {a off : Int} {tgt : Nat} (hd : decode M.2.1 pc = .ok (.ifCond .ne off, 3)) (ht : (pc : Int) + off = (tgt : Int)) (kt : ¬ a = 0 → AW L M r tgt ls st σ) (kf : a = 0 → AW L M r (pc + 3) ls st σ) : AW L M r pc ls (vI a :: st) σ := by
  intro p l e s m args below meth c G H locs lsA hX hW hO hv
  have ha : IR a := at_0 hO
  have hb : IR 0 := IR_0
  have kt' := fun h => kt h p l e s m args below meth c G H locs lsA hX hW (ok_drop hO in_1) hv
  have kf' := fun h => kf h p l e s m args below meth c G H locs lsA hX hW (ok_drop hO in_1) hv
  exact lv_if_ne hX.1 hX.2.1 hd ht (fun h => kt' (fun q => h ((oi_eq ha hb).mpr q))) (fun h => kf' ((oi_eq ha hb).mp h))
theorem aw_icmp_lt {a b off : Int} {tgt : Nat} (hd : decode M.2.1 pc = .ok (.if_icmp .lt off, 3)) (ht : (pc : Int) + off = (tgt : Int)) (kt : a < b → AW L M r tgt ls st σ) (kf : ¬ a < b → AW L M r (pc + 3) ls st σ) : AW L M r pc ls (vI b :: vI a :: st) σ := by
  intro p l e s m args below meth c G H locs lsA hX hW hO hv
  have ha : IR a := at_1 hO
  have hb : IR b := at_0 hO
  have kt' := fun h => kt h p l e s m args below meth c G H locs lsA hX hW (ok_drop hO in_2) hv
  have kf' := fun h => kf h p l e s m args below meth c G H locs lsA hX hW (ok_drop hO in_2) hv
  exact lv_icmp_lt hX.1 hX.2.1 hd ht (fun h => kt' ((oi_lt ha hb).mp h)) (fun h => kf' (fun q => h ((oi_lt ha hb).mpr q)))
theorem aw_if_lt {a off : Int} {tgt : Nat} (hd : decode M.2.1 pc = .ok (.ifCond .lt off, 3)) (ht : (pc : Int) + off = (tgt : Int)) (kt : a < 0 → AW L M r tgt ls st σ) (kf : ¬ a < 0 → AW L M r (pc + 3) ls st σ) : AW L M r pc ls (vI a :: st) σ := by
  intro p l e s m args below meth c G H locs lsA hX hW hO hv
  have ha : IR a := at_0 hO
  have hb : IR 0 := IR_0
  have kt' := fun h => kt h p l e s m args below meth c G H locs lsA hX hW (ok_drop hO in_1) hv
  have kf' := fun h => kf h p l e s m args below meth c G H locs lsA hX hW (ok_drop hO in_1) hv
  exact lv_if_lt hX.1 hX.2.1 hd ht (fun h => kt' ((oi_lt ha hb).mp h)) (fun h => kf' (fun q => h ((oi_lt ha hb).mpr q)))
theorem aw_icmp_ge {a b off : Int} {tgt : Nat} (hd : decode M.2.1 pc = .ok (.if_icmp .ge off, 3)) (ht : (pc : Int) + off = (tgt : Int)) (kt : b ≤ a → AW L M r tgt ls st σ) (kf : ¬ b ≤ a → AW L M r (pc + 3) ls st σ) : AW L M r pc ls (vI b :: vI a :: st) σ := by
  intro p l e s m args below meth c G H locs lsA hX hW hO hv
  have ha : IR a := at_1 hO
  have hb : IR b := at_0 hO
  have kt' := fun h => kt h p l e s m args below meth c G H locs lsA hX hW (ok_drop hO in_2) hv
  have kf' := fun h => kf h p l e s m args below meth c G H locs lsA hX hW (ok_drop hO in_2) hv
  exact lv_icmp_ge hX.1 hX.2.1 hd ht (fun h => kt' ((oi_le hb ha).mp h)) (fun h => kf' (fun q => h ((oi_le hb ha).mpr q)))
theorem aw_if_ge {a off : Int} {tgt : Nat} (hd : decode M.2.1 pc = .ok (.ifCond .ge off, 3)) (ht : (pc : Int) + off = (tgt : Int)) (kt : 0 ≤ a → AW L M r tgt ls st σ) (kf : ¬ 0 ≤ a → AW L M r (pc + 3) ls st σ) : AW L M r pc ls (vI a :: st) σ := by
  intro p l e s m args below meth c G H locs lsA hX hW hO hv
  have ha : IR a := at_0 hO
  have hb : IR 0 := IR_0
  have kt' := fun h => kt h p l e s m args below meth c G H locs lsA hX hW (ok_drop hO in_1) hv
  have kf' := fun h => kf h p l e s m args below meth c G H locs lsA hX hW (ok_drop hO in_1) hv
  exact lv_if_ge hX.1 hX.2.1 hd ht (fun h => kt' ((oi_le hb ha).mp h)) (fun h => kf' (fun q => h ((oi_le hb ha).mpr q)))
theorem aw_icmp_gt {a b off : Int} {tgt : Nat} (hd : decode M.2.1 pc = .ok (.if_icmp .gt off, 3)) (ht : (pc : Int) + off = (tgt : Int)) (kt : b < a → AW L M r tgt ls st σ) (kf : ¬ b < a → AW L M r (pc + 3) ls st σ) : AW L M r pc ls (vI b :: vI a :: st) σ := by
  intro p l e s m args below meth c G H locs lsA hX hW hO hv
  have ha : IR a := at_1 hO
  have hb : IR b := at_0 hO
  have kt' := fun h => kt h p l e s m args below meth c G H locs lsA hX hW (ok_drop hO in_2) hv
  have kf' := fun h => kf h p l e s m args below meth c G H locs lsA hX hW (ok_drop hO in_2) hv
  exact lv_icmp_gt hX.1 hX.2.1 hd ht (fun h => kt' ((oi_lt hb ha).mp h)) (fun h => kf' (fun q => h ((oi_lt hb ha).mpr q)))
theorem aw_if_gt {a off : Int} {tgt : Nat} (hd : decode M.2.1 pc = .ok (.ifCond .gt off, 3)) (ht : (pc : Int) + off = (tgt : Int)) (kt : 0 < a → AW L M r tgt ls st σ) (kf : ¬ 0 < a → AW L M r (pc + 3) ls st σ) : AW L M r pc ls (vI a :: st) σ := by
  intro p l e s m args below meth c G H locs lsA hX hW hO hv
  have ha : IR a := at_0 hO
  have hb : IR 0 := IR_0
  have kt' := fun h => kt h p l e s m args below meth c G H locs lsA hX hW (ok_drop hO in_1) hv
  have kf' := fun h => kf h p l e s m args below meth c G H locs lsA hX hW (ok_drop hO in_1) hv
  exact lv_if_gt hX.1 hX.2.1 hd ht (fun h => kt' ((oi_lt hb ha).mp h)) (fun h => kf' (fun q => h ((oi_lt hb ha).mpr q)))
theorem aw_icmp_le {a b off : Int} {tgt : Nat} (hd : decode M.2.1 pc = .ok (.if_icmp .le off, 3)) (ht : (pc : Int) + off = (tgt : Int)) (kt : a ≤ b → AW L M r tgt ls st σ) (kf : ¬ a ≤ b → AW L M r (pc + 3) ls st σ) : AW L M r pc ls (vI b :: vI a :: st) σ := by
  intro p l e s m args below meth c G H locs lsA hX hW hO hv
  have ha : IR a := at_1 hO
  have hb : IR b := at_0 hO
  have kt' := fun h => kt h p l e s m args below meth c G H locs lsA hX hW (ok_drop hO in_2) hv
  have kf' := fun h => kf h p l e s m args below meth c G H locs lsA hX hW (ok_drop hO in_2) hv
  exact lv_icmp_le hX.1 hX.2.1 hd ht (fun h => kt' ((oi_le ha hb).mp h)) (fun h => kf' (fun q => h ((oi_le ha hb).mpr q)))
theorem aw_if_le {a off : Int} {tgt : Nat} (hd : decode M.2.1 pc = .ok (.ifCond .le off, 3)) (ht : (pc : Int) + off = (tgt : Int)) (kt : a ≤ 0 → AW L M r tgt ls st σ) (kf : ¬ a ≤ 0 → AW L M r (pc + 3) ls st σ) : AW L M r pc ls (vI a :: st) σ := by
  intro p l e s m args below meth c G H locs lsA hX hW hO hv
  have ha : IR a := at_0 hO
  have hb : IR 0 := IR_0
  have kt' := fun h => kt h p l e s m args below meth c G H locs lsA hX hW (ok_drop hO in_1) hv
  have kf' := fun h => kf h p l e s m args below meth c G H locs lsA hX hW (ok_drop hO in_1) hv
  exact lv_if_le hX.1 hX.2.1 hd ht (fun h => kt' ((oi_le ha hb).mp h)) (fun h => kf' (fun q => h ((oi_le ha hb).mpr q)))
theorem aw_goto {off : Int} {tgt : Nat} (hd : decode M.2.1 pc = .ok (.goto off, 3)) (ht : (pc : Int) + off = (tgt : Int)) (k : AW L M r tgt ls st σ) : AW L M r pc ls st σ := by
  intro p l e s m args below meth c G H locs lsA hX hW hO hv
  exact lv_goto hX.1 hX.2.1 hd ht (k p l e s m args below meth c G H locs lsA hX hW hO hv)
theorem aw_ifnull {off : Int} {tgt : Nat} {o : Option Nat} (hd : decode M.2.1 pc = .ok (.ifnull off, 3)) (ht : (pc : Int) + off = (tgt : Int)) (kt : o = none → AW L M r tgt ls st σ) (kf : ∀ q, o = some q → AW L M r (pc + 3) ls st σ) : AW L M r pc ls (vR o :: st) σ := by
  intro p l e s m args below meth c G H locs lsA hX hW hO hv
  cases o with
  | none => exact lv_ifnullN hX.1 hX.2.1 hd ht (kt rfl p l e s m args below meth c G H locs lsA hX hW (ok_drop hO in_1) hv)
  | some q => exact lv_ifnull hX.1 hX.2.1 hd (kf q rfl p l e s m args below meth c G H locs lsA hX hW (ok_drop hO in_1) hv)
theorem aw_ifnonnull {off : Int} {tgt : Nat} {o : Option Nat} (hd : decode M.2.1 pc = .ok (.ifnonnull off, 3)) (ht : (pc : Int) + off = (tgt : Int)) (kt : ∀ q, o = some q → AW L M r tgt ls st σ) (kf : o = none → AW L M r (pc + 3) ls st σ) : AW L M r pc ls (vR o :: st) σ := by
  intro p l e s m args below meth c G H locs lsA hX hW hO hv
  cases o with
  | none => exact lv_ifnonnullN hX.1 hX.2.1 hd (kf rfl p l e s m args below meth c G H locs lsA hX hW (ok_drop hO in_1) hv)
  | some q => exact lv_ifnonnull hX.1 hX.2.1 hd ht (kt q rfl p l e s m args below meth c G H locs lsA hX hW (ok_drop hO in_1) hv)
theorem aw_tableOut {a dflt lo hi : Int} {offs : Array Int} {len tgt : Nat} (hd : decode M.2.1 pc = .ok (.tableswitch dflt lo hi offs, len)) (h : a < lo ∨ hi < a) (ht : (pc : Int) + dflt = (tgt : Int)) (k : AW L M r tgt ls st σ) : AW L M r pc ls (vI a :: st) σ := by
  intro p l e s m args below meth c G H locs lsA hX hW hO hv
  exact lv_tableOut hX.1 hX.2.1 hd (by rw [ti_of (at_0 hO)]; exact h) ht (k p l e s m args below meth c G H locs lsA hX hW (ok_drop hO in_1) hv)
theorem aw_tableIn {a dflt lo hi off : Int} {offs : Array Int} {len tgt : Nat} (hd : decode M.2.1 pc = .ok (.tableswitch dflt lo hi offs, len)) (h1 : ¬ a < lo) (h2 : ¬ hi < a) (ho : offs[(a - lo).toNat]? = some off) (ht : (pc : Int) + off = (tgt : Int)) (k : AW L M r tgt ls st σ) : AW L M r pc ls (vI a :: st) σ := by
  intro p l e s m args below meth c G H locs lsA hX hW hO hv
  have e1 : (Int32.ofInt a).toInt = a := ti_of (at_0 hO)
  exact lv_tableIn hX.1 hX.2.1 hd (by rw [e1]; exact h1) (by rw [e1]; exact h2) (by rw [e1]; exact ho) ht (k p l e s m args below meth c G H locs lsA hX hW (ok_drop hO in_1) hv)
theorem aw_lookup {a dflt off : Int} {ps : Array (Int × Int)} {len tgt : Nat} (hd : decode M.2.1 pc = .ok (.lookupswitch dflt ps, len)) (hp : (ps.toList.zip (ps.toList.drop 1)).all (fun (a, next) => a.1 < next.1) = true) (ho : Op.lookupswitch.offset ps.toList dflt a = off) (ht : (pc : Int) + off = (tgt : Int)) (k : AW L M r tgt ls st σ) : AW L M r pc ls (vI a :: st) σ := by
  intro p l e s m args below meth c G H locs lsA hX hW hO hv
  exact lv_lookup hX.1 hX.2.1 hd hp (by rw [ti_of (at_0 hO)]; exact ho) ht (k p l e s m args below meth c G H locs lsA hX hW (ok_drop hO in_1) hv)
-- fields
theorem ce_obj {G : Gd} {q ci : Nat} (h : L.2.1 q = 3 + ci) : ce L G σ q = .inr (ci, (List.range (L.2.2.1 q)).map (fdv L G σ q)) := by
  unfold ce
  rw [if_neg (by omega), if_neg (by omega), if_neg (by omega), h]
  congr 2
  omega
theorem fd_at {G : Gd} {q k n : Nat} (h : k < n) : ((List.range n).map (fdv L G σ q))[k]? = some (fdv L G σ q k) := by
  simp [List.getElem?_map, List.getElem?_range h]
theorem aw_getI {idx q ci kf : Nat} (hd : decode M.2.1 pc = .ok (.getfield idx, 3)) (hf : FK M.1.cls idx ci kf) (hq : PL L q ci) (hr : L.2.2.2 q kf = none) (k : AW L M r (pc + 3) ls (vI (σ q kf) :: st) σ) : AW L M r pc ls (vR (some q) :: st) σ := by
  intro p l e s m args below meth c G H locs lsA hX hW hO hv
  obtain ⟨C, T, N, ty, hc, hk, hlink, hin, hC, -, -⟩ := hf
  obtain ⟨hq1, hq2, hq3⟩ := hq
  have hN := hq3 C T N hc
  have K := k p l e s m args below meth c G H locs lsA hX hW (ok_push hO in_1 (hO.2.2 q kf)) hv
  exact va_get hX.1 hX.2.1 hX.2.2.2.2.2.2.1 hin hX.2.2.2.2.2.1 hX.2.2.2.2.2.2.2 hW.1 q (wo_at' hq1 (ce_obj hq2)) hc kf hk (hX.2.2.2.2.2.2.1 _ hlink) (fun _ h => by rw [hC] at h; exact h) (v := cv G (vI (σ q kf))) (by rw [hN, fd_at hk]; simp only [fdv, hr]; rfl) hd K
theorem aw_getR {idx q ci kf t : Nat} (hd : decode M.2.1 pc = .ok (.getfield idx, 3)) (hf : FK M.1.cls idx ci kf) (hq : PL L q ci) (hr : L.2.2.2 q kf = some t) (k : AW L M r (pc + 3) ls (vR (some t) :: st) σ) : AW L M r pc ls (vR (some q) :: st) σ := by
  intro p l e s m args below meth c G H locs lsA hX hW hO hv
  obtain ⟨C, T, N, ty, hc, hk, hlink, hin, hC, -, -⟩ := hf
  obtain ⟨hq1, hq2, hq3⟩ := hq
  have hN := hq3 C T N hc
  have K := k p l e s m args below meth c G H locs lsA hX hW (ok_push (v := vR (some t)) hO in_1 trivial) hv
  exact va_get hX.1 hX.2.1 hX.2.2.2.2.2.2.1 hin hX.2.2.2.2.2.1 hX.2.2.2.2.2.2.2 hW.1 q (wo_at' hq1 (ce_obj hq2)) hc kf hk (hX.2.2.2.2.2.2.1 _ hlink) (fun _ h => by rw [hC] at h; exact h) (v := cv G (vR (some t))) (by rw [hN, fd_at hk]; simp only [fdv, hr]; rfl) hd K
theorem fd_up {G : Gd} {q kf n : Nat} {v : Int} (hr : L.2.2.2 q kf = none) : ((List.range n).map (fdv L G σ q)).set kf (.int (Int32.ofInt v)) = (List.range n).map (fdv L G (up σ q kf v) q) := by
  apply List.ext_getElem?
  intro i
  by_cases hi : i < n
  · by_cases hk : i = kf
    · subst hk
      rw [List.getElem?_set_self (by simp [hi]), fd_at hi]
      simp [fdv, hr, up]
    · rw [List.getElem?_set_ne (Ne.symm hk), fd_at hi, fd_at hi]
      simp [fdv, up, hk]
  · rw [List.getElem?_eq_none (by simp; omega), List.getElem?_eq_none (by simp; omega)]
theorem aw_put {idx q ci kf : Nat} {v : Int} {t : FieldType} (hd : decode M.2.1 pc = .ok (.putfield idx, 3)) (hf : FK M.1.cls idx ci kf) (hq : PL L q ci) (hr : L.2.2.2 q kf = none) (hft : FT ci kf t) (hnar : narrow t (.int (Int32.ofInt v)) = .int (Int32.ofInt v) ∧ fits t (.int (Int32.ofInt v)) = true) (k : ∀ σ1, σ1 = up σ q kf v → AW L M r (pc + 3) ls st σ1) : AW L M r pc ls (vI v :: vR (some q) :: st) σ := by
  intro p l e s m args below meth c G H locs lsA hX hW hO hv
  obtain ⟨C, T, N, ty, hc, hk, hlink, hin, hC, hty, hnm⟩ := hf
  obtain ⟨hq1, hq2, hq3⟩ := hq
  have hN := hq3 C T N hc
  obtain ⟨hfin, hpd⟩ := hft C T N hc
  refine va_put (v := .int (Int32.ofInt v)) hX.1 hX.2.1 hX.2.2.2.2.2.2.1 hin ty hty hnm hX.2.2.2.2.2.1 hX.2.2.2.2.2.2.2 hW.1 hW.2.1 hW.2.2 q (wo_at' hq1 (ce_obj hq2)) hc kf hk (hX.2.2.2.2.2.2.1 _ hlink) (fun _ h => by rw [hC] at h; exact h) hfin hpd hnar.1 hnar.2 (by simp [hN]; exact hk) hd (fun H1 locs1 hP1 hD1 hS1 => ?_)
  rw [fd_up hr, wo_set (σ' := up σ q kf v) hq1 (ce_obj hq2) up_off] at hP1 hD1
  exact k _ rfl p l e s m args below meth c G H1 locs1 lsA hX ⟨hP1, hD1, hS1⟩ (ok_up hO in_2 (at_0 hO)) hv
theorem nar_int (v : Int) : narrow .int (.int (Int32.ofInt v)) = .int (Int32.ofInt v) ∧ fits .int (.int (Int32.ofInt v)) = true := ⟨rfl, rfl⟩
theorem nar_bool {v : Int} (h : v = 0 ∨ v = 1) : narrow .boolean (.int (Int32.ofInt v)) = .int (Int32.ofInt v) ∧ fits .boolean (.int (Int32.ofInt v)) = true := by
  rcases h with rfl | rfl <;> exact ⟨by decide, by decide⟩
-- rows
theorem aw_iald {q n : Nat} {i : Int} (hd : decode M.2.1 pc = .ok (.iaload, 1)) (hq : AR L q 0 n) (hi : 0 ≤ i ∧ i < n) (k : AW L M r (pc + 1) ls (vI (σ q i.toNat) :: st) σ) : AW L M r pc ls (vI i :: vR (some q) :: st) σ := by
  intro p l e s m args below meth c G H locs lsA hX hW hO hv
  obtain ⟨hq1, hq2, hq3⟩ := hq
  have hR : IR i := at_0 hO
  have K := k p l e s m args below meth c G H locs lsA hX hW (ok_push hO in_2 (hO.2.2 q i.toNat)) hv
  refine va_iald hX.1 hX.2.1 hX.2.2.2.2.2.2.2 hW.1 q 0 (wo_at' hq1 (by unfold ce; rw [if_pos hq2])) rfl (oi_in hR (by rw [hq3]; exact hi)) hd ?_
  rw [oi_nat hR]
  exact K
theorem aw_zald {q n : Nat} {i : Int} (hd : decode M.2.1 pc = .ok (.baload, 1)) (hq : AR L q 1 n) (hi : 0 ≤ i ∧ i < n) (k : AW L M r (pc + 1) ls (vI (σ q i.toNat) :: st) σ) : AW L M r pc ls (vI i :: vR (some q) :: st) σ := by
  intro p l e s m args below meth c G H locs lsA hX hW hO hv
  obtain ⟨hq1, hq2, hq3⟩ := hq
  have hR : IR i := at_0 hO
  have K := k p l e s m args below meth c G H locs lsA hX hW (ok_push hO in_2 (hO.2.2 q i.toNat)) hv
  refine va_zald hX.1 hX.2.1 hX.2.2.2.2.2.2.2 hW.1 q 1 (wo_at' hq1 (by unfold ce; rw [if_neg (by omega), if_pos hq2])) rfl (oi_in hR (by rw [hq3]; exact hi)) hd ?_
  rw [oi_nat hR]
  exact K
theorem row_up {G : Gd} {q j : Nat} {v : Int} : (fun i => Int32.ofInt (up σ q j v q i)) = upd (fun i => Int32.ofInt (σ q i)) j (Int32.ofInt v) := by
  funext i
  simp only [up_row, upd]
  split <;> rfl
theorem aw_iast {q n : Nat} {i v : Int} (hd : decode M.2.1 pc = .ok (.iastore, 1)) (hq : AR L q 0 n) (hi : 0 ≤ i ∧ i < n) (k : ∀ σ1, σ1 = up σ q i.toNat v → AW L M r (pc + 1) ls st σ1) : AW L M r pc ls (vI v :: vI i :: vR (some q) :: st) σ := by
  intro p l e s m args below meth c G H locs lsA hX hW hO hv
  obtain ⟨hq1, hq2, hq3⟩ := hq
  have hR : IR i := at_1 hO
  refine va_iast hX.1 hX.2.1 hX.2.2.2.2.2.2.2 hW.1 hW.2.1 hW.2.2 q 0 (wo_at' hq1 (by unfold ce; rw [if_pos hq2])) rfl (oi_in hR (by rw [hq3]; exact hi)) hd (fun H1 locs1 hP1 hD1 hS1 => ?_)
  rw [oi_nat hR, ← row_up (G := G), wo_set (σ' := up σ q i.toNat v) hq1 (by unfold ce; rw [if_pos hq2]) up_off] at hP1 hD1
  exact k _ rfl p l e s m args below meth c G H1 locs1 lsA hX ⟨hP1, hD1, hS1⟩ (ok_up hO in_3 (at_0 hO)) hv
theorem nar_z {v : Int} (h : v = 0 ∨ v = 1) : vp_nar .boolean (Int32.ofInt v) = Int32.ofInt v := by
  rcases h with rfl | rfl <;> decide
theorem aw_zast {q n : Nat} {i v : Int} (hd : decode M.2.1 pc = .ok (.bastore, 1)) (hq : AR L q 1 n) (hi : 0 ≤ i ∧ i < n) (hb : v = 0 ∨ v = 1) (k : ∀ σ1, σ1 = up σ q i.toNat v → AW L M r (pc + 1) ls st σ1) : AW L M r pc ls (vI v :: vI i :: vR (some q) :: st) σ := by
  intro p l e s m args below meth c G H locs lsA hX hW hO hv
  obtain ⟨hq1, hq2, hq3⟩ := hq
  have hR : IR i := at_1 hO
  refine va_zast hX.1 hX.2.1 hX.2.2.2.2.2.2.2 hW.1 hW.2.1 hW.2.2 q 1 (wo_at' hq1 (by unfold ce; rw [if_neg (by omega), if_pos hq2])) rfl (oi_in hR (by rw [hq3]; exact hi)) hd (fun H1 locs1 hP1 hD1 hS1 => ?_)
  rw [oi_nat hR, nar_z hb, ← row_up (G := G), wo_set (σ' := up σ q i.toNat v) hq1 (by unfold ce; rw [if_neg (by omega), if_pos hq2]) up_off] at hP1 hD1
  exact k _ rfl p l e s m args below meth c G H1 locs1 lsA hX ⟨hP1, hD1, hS1⟩ (ok_up hO in_3 (at_0 hO)) hv
theorem aw_aald {q n : Nat} {i : Int} (hd : decode M.2.1 pc = .ok (.aaload, 1)) (hq : AR L q 2 n) (hi : 0 ≤ i ∧ i < n) (k : AW L M r (pc + 1) ls (vR (L.2.2.2 q i.toNat) :: st) σ) : AW L M r pc ls (vI i :: vR (some q) :: st) σ := by
  intro p l e s m args below meth c G H locs lsA hX hW hO hv
  obtain ⟨hq1, hq2, hq3⟩ := hq
  have hR : IR i := at_0 hO
  have K := k p l e s m args below meth c G H locs lsA hX hW (ok_push (v := vR (L.2.2.2 q i.toNat)) hO in_2 trivial) hv
  refine va_aldq hX.1 hX.2.1 hX.2.2.2.2.2.2.2 hW.1 q 2 (wo_at' hq1 (by unfold ce; rw [if_neg (by omega), if_neg (by omega), if_pos hq2])) rfl (oi_in hR (by rw [hq3]; exact hi)) hd ?_
  rw [oi_nat hR]
  cases hx : L.2.2.2 q i.toNat with
  | none => rw [hx] at K; exact K
  | some x => rw [hx] at K; exact K
theorem aw_alen {q n t : Nat} (hd : decode M.2.1 pc = .ok (.arraylength, 1)) (hq : AR L q t n) (ht : t < 3) (hn : IR n) (k : AW L M r (pc + 1) ls (vI n :: st) σ) : AW L M r pc ls (vR (some q) :: st) σ := by
  intro p l e s m args below meth c G H locs lsA hX hW hO hv
  obtain ⟨hq1, hq2, hq3⟩ := hq
  have K := k p l e s m args below meth c G H locs lsA hX hW (ok_push hO in_1 hn) hv
  match t, ht with
  | 0, _ => exact va_alen hX.1 hX.2.1 hX.2.2.2.2.2.2.2 hW.1 q 0 (wo_at' hq1 (by unfold ce; rw [if_pos hq2])) rfl (by show Int32.ofNat (L.2.2.1 q) = Int32.ofInt n; rw [hq3, Int32.ofInt_eq_ofNat]) hd K
  | 1, _ => exact va_alen hX.1 hX.2.1 hX.2.2.2.2.2.2.2 hW.1 q 1 (wo_at' hq1 (by unfold ce; rw [if_neg (by omega), if_pos hq2])) rfl (by show Int32.ofNat (L.2.2.1 q) = Int32.ofInt n; rw [hq3, Int32.ofInt_eq_ofNat]) hd K
  | 2, _ => exact va_alen hX.1 hX.2.1 hX.2.2.2.2.2.2.2 hW.1 q 2 (wo_at' hq1 (by unfold ce; rw [if_neg (by omega), if_neg (by omega), if_pos hq2])) rfl (by show Int32.ofNat (L.2.2.1 q) = Int32.ofInt n; rw [hq3, Int32.ofInt_eq_ofNat]) hd K
-- ends
theorem pq_of {G : Gd} {s t : State} {H : Heap} {locs : List Loc} {v : Option AV} {a : Array Value} {oc : Outcome} (hK : va_K G.1 vwCl (tys G) s) (hW : WD L G s σ H locs) (ho : okr (v, σ)) (he : oc = .returned (v.map (cv G))) (ht : t.heap = H) (hw : s.WarmedH t.vm) : PQ L G (v, σ) s.heap.size a s oc t :=
  ⟨⟨he, ho, by rw [ht]; exact hW.1, va_K.moved hw.alike hK⟩, hW.2.2.F ht⟩
theorem aw_iret {x : Int} (hd : decode M.2.1 pc = .ok (.ireturn, 1)) (hr : M.2.2.2.1 = some .int) : AW L M (some (vI x), σ) pc ls [vI x] σ := by
  intro p l e s m args below meth c G H locs lsA hX hW hO hv
  have hlocks : meth.locks = false := hX.2.2.2.2.1
  have ho : okr (some (vI x), σ) := ⟨fun v h => by obtain rfl := Option.some.inj h; exact at_0 hO, hO.2.2⟩
  exact W.iret hX.1 hX.2.1 (hX.2.2.2.1.trans hr) (fun t ht hw => pq_of hX.2.2.2.2.2.2.2 hW ho rfl ht hw) hW.2.2.2.2 hd
theorem aw_zret {x : Int} (hd : decode M.2.1 pc = .ok (.ireturn, 1)) (hr : M.2.2.2.1 = some .boolean) (hx : x = 0 ∨ x = 1) : AW L M (some (vI x), σ) pc ls [vI x] σ := by
  intro p l e s m args below meth c G H locs lsA hX hW hO hv
  have hlocks : meth.locks = false := hX.2.2.2.2.1
  have ho : okr (some (vI x), σ) := ⟨fun v h => by obtain rfl := Option.some.inj h; exact at_0 hO, hO.2.2⟩
  exact W.zret hX.1 hX.2.1 (hX.2.2.2.1.trans hr) (nar_bool hx).1 (fun t ht hw => pq_of hX.2.2.2.2.2.2.2 hW ho rfl ht hw) hW.2.2.2.2 hd
theorem aw_lret {x : Int} (hd : decode M.2.1 pc = .ok (.lreturn, 1)) (hr : M.2.2.2.1 = some .long) : AW L M (some (vL x), σ) pc ls [vL x] σ := by
  intro p l e s m args below meth c G H locs lsA hX hW hO hv
  have hlocks : meth.locks = false := hX.2.2.2.2.1
  have ho : okr (some (vL x), σ) := ⟨fun v h => by obtain rfl := Option.some.inj h; exact at_0 hO, hO.2.2⟩
  exact W.lret hX.1 hX.2.1 (hX.2.2.2.1.trans hr) (fun t ht hw => pq_of hX.2.2.2.2.2.2.2 hW ho rfl ht hw) hW.2.2.2.2 hd
theorem aw_aret {x : Option Nat} {C : String} (hd : decode M.2.1 pc = .ok (.areturn, 1)) (hr : M.2.2.2.1 = some (.object C)) : AW L M (some (vR x), σ) pc ls [vR x] σ := by
  intro p l e s m args below meth c G H locs lsA hX hW hO hv
  have hlocks : meth.locks = false := hX.2.2.2.2.1
  have ho : okr (some (vR x), σ) := ⟨fun v h => by obtain rfl := Option.some.inj h; exact at_0 hO, hO.2.2⟩
  refine W.aret (v := cv G (vR x)) hX.1 hX.2.1 (hX.2.2.2.1.trans hr) (Or.inl ⟨C, rfl⟩) ?_ (fun t ht hw => pq_of hX.2.2.2.2.2.2.2 hW ho rfl ht hw) hW.2.2.2.2 hd
  cases x with
  | none => exact Or.inl rfl
  | some q => exact Or.inr ⟨_, rfl⟩
theorem aw_vret (hd : decode M.2.1 pc = .ok (.return_, 1)) (hr : M.2.2.2.1 = none) : AW L M (none, σ) pc ls [] σ := by
  intro p l e s m args below meth c G H locs lsA hX hW hO hv
  have hlocks : meth.locks = false := hX.2.2.2.2.1
  have ho : okr (none, σ) := ⟨fun v h => (by cases h), hO.2.2⟩
  exact W.vret hX.1 hX.2.1 (hX.2.2.2.1.trans hr) (fun t ht hw => pq_of hX.2.2.2.2.2.2.2 hW ho rfl ht hw) hW.2.2.2.2 hd
end Rules2
end
section
/-! ===== the rules: calls, a method's entry ===== -/
def stw : List AV → Nat
  | [] => 0
  | v :: t => (if isL v then 2 else 1) + stw t
theorem stw_sum (G : Gd) : ∀ st : List AV, ((st.map (cv G)).map fun v => v.category).sum = stw st
  | [] => rfl
  | v :: t => by
      simp only [List.map_cons, List.sum_cons, stw, stw_sum G t, cat_cv]
section Calls2
variable {L : Lay} {M M2 : MI} {r r2 : Option AV × SS} {pc idx : Nat} {ls : List (Option AV)} {st : List AV} {σ : SS}
theorem AA_up {G : Gd} {a b : Nat} (h : a ≤ b) : ∀ q, AA L G b q → AA L G a q := by
  rintro q (h1 | h1)
  · exact Or.inl h1
  · exact Or.inr (Nat.le_trans h h1)
theorem aw_run {p : Program} {l : Launch} {e : Env} {R : Room} {s : State} {m : MethodId} {args : Array Value} {below : List Frame} {meth : Method} {c : Code} {G : Gd} {H : Heap} {locs : List Loc} {lsA : Array Slot} {st0 rest : List Value} {a : Array Value} {Q : State → Prop}
    (hr : va_Run p l e R s m args below meth c H locs 0 0 0 0 (F0 m pc lsA st0) rest (PQ L G r2 H.size a) (AA L G H.size)) (hS : va_S (AA L G s.heap.size) s.heap H locs)
    (kk : ∀ (H1 : Heap) (locs1 : List Loc), okr r2 → va_P G.1 vwCl (wo L G r2.2) H1 → va_S (AA L G s.heap.size) s.heap H1 locs1 → W p l e R s m args below meth c H1 locs1 0 0 Q (F0 m (pc + 3) lsA ((r2.1.map (cv G)).toList ++ rest))) : W p l e R s m args below meth c H locs 0 0 Q (F0 m pc lsA st0) := by
  intro T hT X
  obtain ⟨v, st₀, t, T', L1, h0, X', hL, e1, e2, ⟨⟨hv, ho, hP, hK⟩, hz, hk⟩, st⟩ := hr T hT X
  obtain rfl : v = r2.1.map (cv G) := by injection hv
  rw [h0] at hz hk
  obtain ⟨t2, a1, b1⟩ := kk T'.heap (locs ++ L1) ho (by rw [e1]; exact hP)
    ⟨Nat.le_trans hS.1 (by rw [e1]; exact hz), fun q h1 h2 => by rw [e1, hk q (Nat.lt_of_lt_of_le h1 hS.1) (fun z => h2 (AA_up hS.1 q z))]; exact hS.2.1 q h1 h2, fun q hq => by
      rcases List.mem_append.mp hq with h | h
      · exact hS.2.2 q h
      · exact AA_up hS.1 _ (hL q h)⟩ T' rfl X'
  exact ⟨t2, st t2 a1, b1⟩
theorem pc_blind {G : Gd} {sz : Nat} {vs : List Value} : FrameBlind (va_Pc vs (fun U => U.heap.size = sz ∧ va_P G.1 vwCl (wo L G σ) U.heap ∧ va_K G.1 vwCl (tys G) U ∧ va_D (fun _ => True) (wo L G σ))) := by
  intro a U g mk q
  obtain ⟨q0, q1, qP, qK, qD⟩ := q
  exact ⟨q0, q1, qP, va_K.moved (u := U) (U := U.calling g mk a) (Vm.Alike.refl U.vm) qK, qD⟩
theorem pc_at {G : Gd} {s : State} {H : Heap} {locs : List Loc} {vs : List Value} (hK : va_K G.1 vwCl (tys G) s) (hW : WD L G s σ H locs) : ∀ U : State, U.heap = H → s.WarmedH U.vm → va_Pc vs (fun U => U.heap.size = H.size ∧ va_P G.1 vwCl (wo L G σ) U.heap ∧ va_K G.1 vwCl (tys G) U ∧ va_D (fun _ => True) (wo L G σ)) vs.toArray U := by
  intro U hU hw
  exact ⟨rfl, by rw [hU], by rw [hU]; exact hW.1, va_K.moved hw.alike hK, hW.2.1.weaken (fun _ _ _ _ => trivial)⟩
/-- an object's method, called from a method -/
theorem aw_callV {q ci n : Nat} {as : List AV} (hd : decode M.2.1 pc = .ok (.invokevirtual idx, 3)) (hl : Cond.methodLink M.1.cls idx M2.1 ∈ gtb) (hm : MK M2 n) (hv : MV M2) (hR : RF M2 M) (hq : PL L q ci) (hci : ∃ (T : u_T) (N : Nat), vwCl[ci]? = some (M2.1.cls, T, N)) (hn : as.length = n) (hst : stw st ≤ 8)
    (hc : CT L M2 (vR (some q) :: as) σ r2) (k : AW L M r (pc + 3) ls (r2.1.toList ++ st) r2.2) : AW L M r pc ls (as.reverse ++ vR (some q) :: st) σ := by
  intro p l e s m args below meth c G H locs lsA hX hW hO hl2
  obtain ⟨T, N, hcl⟩ := hci
  have hts := hX.2.2.2.2.2.2.1
  have hK := hX.2.2.2.2.2.2.2
  have hM := hc (fun w hw => by
    rcases List.mem_cons.mp hw with rfl | hw
    · trivial
    · exact hO.2.1 w (List.mem_append_left _ (List.mem_reverse.mpr hw))) hO.2.2 l G H.size
  have cb := callB_of (R := M.2.2.2.2) (own := M.1.cls) (index := idx) (bytes := M2.2.1) (maxL := M2.2.2.1) (ret := M2.2.2.2.1) n hts (good_M hm) rfl hm.2.2.2.1 hm.2.2.2.2 (hts _ hm.2.1) (hts _ hl) hm.2.2.1 hR
  have hrun := va_runV (b := G.2.2 q) (As := as.map (cv G)) (rest := st.map (cv G)) (C := M2.1.cls) (locs := locs) (cells := 0) (slots := 0) (below := below) (meth := meth) (e := e) (g := F0 m pc lsA ((as.reverse ++ vR (some q) :: st).map (cv G))) ⟨hX.1, hX.2.1, hX.2.2.1, hX.2.2.2.2.2.1, hts⟩ hM ⟨cb, hts _ hv.1, hts _ hv.2⟩ ⟨pc_blind, va_recv hK hW.1 hcl (wo_at' hq.1 (ce_obj hq.2.1)), pc_at hK hW⟩ rfl (by simp [hn]) hl2.1 (by simp [cv]) (by show 2 * 0 + _ ≤ 8; rw [stw_sum]; omega) hd ⟨Nat.zero_le _, Nat.zero_le _⟩
  refine aw_run hrun hW.2.2 (fun H1 locs1 ho hP1 hS1 => ?_)
  have K := k p l e s m args below meth c G H1 locs1 lsA hX ⟨hP1, va_D_wo hW.2.1, hS1⟩ ⟨hO.1, fun w hw => ?_, ho.2⟩ hl2
  · rw [List.map_append] at K
    cases hr1 : r2.1 with
    | none => rw [hr1] at K; exact K
    | some v => rw [hr1] at K; exact K
  · rcases List.mem_append.mp hw with h | h
    · exact ho.1 w (Option.mem_toList.mp h)
    · exact hO.2.1 w (List.mem_append_right _ (List.mem_cons_of_mem _ h))
/-- a static method -/
theorem aw_callS {n : Nat} {as : List AV} (hd : decode M.2.1 pc = .ok (.invokestatic idx, 3)) (hl : Cond.methodLink M.1.cls idx M2.1 ∈ gtb) (hm : MK M2 n) (hv : Cond.static M2.1 ∈ gtb) (hR : RF M2 M) (hn : as.length = n) (hst : stw st ≤ 8)
    (hc : CT L M2 as σ r2) (k : AW L M r (pc + 3) ls (r2.1.toList ++ st) r2.2) : AW L M r pc ls (as.reverse ++ st) σ := by
  intro p l e s m args below meth c G H locs lsA hX hW hO hl2
  have hts := hX.2.2.2.2.2.2.1
  have hK := hX.2.2.2.2.2.2.2
  have hM := hc (fun w hw => hO.2.1 w (List.mem_append_left _ (List.mem_reverse.mpr hw))) hO.2.2 l G H.size
  have cb := callB_of (R := M.2.2.2.2) (own := M.1.cls) (index := idx) (bytes := M2.2.1) (maxL := M2.2.2.1) (ret := M2.2.2.2.1) n hts (good_M hm) rfl hm.2.2.2.1 hm.2.2.2.2 (hts _ hm.2.1) (hts _ hl) hm.2.2.1 hR
  have hrun := va_runS (As := as.map (cv G)) (rest := st.map (cv G)) (locs := locs) (cells := 0) (slots := 0) (below := below) (meth := meth) (e := e) (g := F0 m pc lsA ((as.reverse ++ st).map (cv G))) ⟨hX.1, hX.2.1, hX.2.2.1, hX.2.2.2.2.2.1, hts⟩ hM ⟨cb, hts _ hv⟩ ⟨pc_blind, pc_at hK hW⟩ rfl (by simp [hn]) hl2.1 (by simp) (by show 2 * 0 + _ ≤ 8; rw [stw_sum]; omega) hd ⟨Nat.zero_le _, Nat.zero_le _⟩
  refine aw_run hrun hW.2.2 (fun H1 locs1 ho hP1 hS1 => ?_)
  have K := k p l e s m args below meth c G H1 locs1 lsA hX ⟨hP1, va_D_wo hW.2.1, hS1⟩ ⟨hO.1, fun w hw => ?_, ho.2⟩ hl2
  · rw [List.map_append] at K
    cases hr1 : r2.1 with
    | none => rw [hr1] at K; exact K
    | some v => rw [hr1] at K; exact K
  · rcases List.mem_append.mp hw with h | h
    · exact ho.1 w (Option.mem_toList.mp h)
    · exact hO.2.1 w (List.mem_append_right _ h)
theorem aw_max {a b : Int} (hd : decode M.2.1 pc = .ok (.invokestatic idx, 3)) (hl : Cond.methodLink M.1.cls idx Lib.Math.max.name ∈ gtb) (h1 : Cond.static Lib.Math.max.name ∈ gtb) (h2 : Cond.initialized "java/lang/Math" ∈ gtb) (h3 : Cond.code Lib.Math.max.name Lib.Math.max.code 2 (some .int) ∈ gtb) (hf : 1 ≤ M.2.2.2.2.frames ∧ 21 ≤ M.2.2.2.2.locals) (hst : stw st ≤ 8) (k : AW L M r (pc + 3) ls (vI (if a < b then b else a) :: st) σ) : AW L M r pc ls (vI b :: vI a :: st) σ := by
  intro p l e s m args below meth c G H locs lsA hX hW hO hv
  have hts := hX.2.2.2.2.2.2.1
  have ha : IR a := at_1 hO
  have hb : IR b := at_0 hO
  have K := k p l e s m args below meth c G H locs lsA hX hW (ok_push hO in_2 (by show IR (if a < b then b else a); split <;> assumption)) hv
  refine va_mmax hX.1 hX.2.1 (hX.2.2.1.trans hv.1.symm) hX.2.2.2.2.2.1 (hts _ hl) (hts _ h1) (hts _ h2) (hts _ h3) hf.1 (by rw [stw_sum]; omega) (Nat.zero_le _) (Nat.zero_le _) hd ?_
  have e1 : (if Int32.ofInt a < Int32.ofInt b then Int32.ofInt b else Int32.ofInt a) = Int32.ofInt (if a < b then b else a) := by
    simp only [oi_lt ha hb]
    split <;> rfl
  rw [e1]
  exact K
theorem aw_min {a b : Int} (hd : decode M.2.1 pc = .ok (.invokestatic idx, 3)) (hl : Cond.methodLink M.1.cls idx Lib.Math.min.name ∈ gtb) (h1 : Cond.static Lib.Math.min.name ∈ gtb) (h2 : Cond.initialized "java/lang/Math" ∈ gtb) (h3 : Cond.code Lib.Math.min.name Lib.Math.min.code 2 (some .int) ∈ gtb) (hf : 1 ≤ M.2.2.2.2.frames ∧ 21 ≤ M.2.2.2.2.locals) (hst : stw st ≤ 8) (k : AW L M r (pc + 3) ls (vI (if b < a then b else a) :: st) σ) : AW L M r pc ls (vI b :: vI a :: st) σ := by
  intro p l e s m args below meth c G H locs lsA hX hW hO hv
  have hts := hX.2.2.2.2.2.2.1
  have ha : IR a := at_1 hO
  have hb : IR b := at_0 hO
  have K := k p l e s m args below meth c G H locs lsA hX hW (ok_push hO in_2 (by show IR (if b < a then b else a); split <;> assumption)) hv
  refine va_mmin hX.1 hX.2.1 (hX.2.2.1.trans hv.1.symm) hX.2.2.2.2.2.1 (hts _ hl) (hts _ h1) (hts _ h2) (hts _ h3) hf.1 (by rw [stw_sum]; omega) (Nat.zero_le _) (Nat.zero_le _) hd ?_
  have e1 : (if Int32.ofInt b < Int32.ofInt a then Int32.ofInt b else Int32.ofInt a) = Int32.ofInt (if b < a then b else a) := by
    simp only [oi_lt hb ha]
    split <;> rfl
  rw [e1]
  exact K
/-- a copy of ints out of one place into another -/
def cpy (σ : SS) (q0 q1 i j n : Nat) : SS := fun q k => if q = q1 ∧ j ≤ k ∧ k < j + n then σ q0 (i + (k - j)) else σ q k
theorem aw_copy {q0 q1 n0 n1 : Nat} {i j n : Int} (hd : decode M.2.1 pc = .ok (.invokestatic idx, 3)) (hl : Cond.methodLink M.1.cls idx arraycopyName ∈ gtb) (h1 : Cond.native arraycopyName ∈ gtb) (h2 : Cond.static arraycopyName ∈ gtb) (h3 : Cond.initialized "java/lang/System" ∈ gtb) (hq0 : AR L q0 0 n0) (hq1 : AR L q1 0 n1) (hi : 0 ≤ i ∧ 0 ≤ j ∧ 0 ≤ n ∧ i + n ≤ n0 ∧ j + n ≤ n1) (hf : 1 ≤ M.2.2.2.2.frames ∧ 8 + (nativeFrameWords "java/lang/System" "arraycopy" 5 + 11) ≤ M.2.2.2.2.locals) (hst : stw st ≤ 8) (k : ∀ σ1, σ1 = cpy σ q0 q1 i.toNat j.toNat n.toNat → AW L M r (pc + 3) ls st σ1) : AW L M r pc ls (vI n :: vI j :: vR (some q1) :: vI i :: vR (some q0) :: st) σ := by
  intro p l e s m args below meth c G H locs lsA hX hW hO hv
  have hts := hX.2.2.2.2.2.2.1
  obtain ⟨a1, a2, a3⟩ := hq0
  obtain ⟨b1, b2, b3⟩ := hq1
  have hn : IR n := at_0 hO
  have hj : IR j := at_1 hO
  have hii : IR i := hO.2.1 (vI i) (by simp)
  have nlt : ∀ {x : Int}, IR x → 0 ≤ x → ¬ Int32.ofInt x < 0 := fun {x} hx h q => by
    have := (oi_lt hx IR_0).mp q
    omega
  refine va_copyi (ty := .int) hX.1 hX.2.1 (hX.2.2.1.trans hv.1.symm) hX.2.2.2.2.2.1 (hts _ hl) (hts _ h1) (hts _ h2) (hts _ h3) hX.2.2.2.2.2.2.2 hW.1 hW.2.1 hW.2.2 q0 q1 0 0 (wo_at' a1 (by unfold ce; rw [if_pos a2])) (wo_at' b1 (by unfold ce; rw [if_pos b2])) rfl rfl rfl (nlt hii hi.1) (nlt hj hi.2.1) (nlt hn hi.2.2.1) (by rw [oi_nat hii, oi_nat hn, a3]; omega) (by rw [oi_nat hj, oi_nat hn, b3]; omega) (fun _ _ => rfl) hf.1 (by rw [stw_sum]; omega) hd (fun H1 locs1 hP1 hD1 hS1 => ?_)
  have e1 : va_cpy (fun x => Int32.ofInt (σ q0 x)) (fun x => Int32.ofInt (σ q1 x)) (Int32.ofInt i).toNatClampNeg (Int32.ofInt j).toNatClampNeg (Int32.ofInt n).toNatClampNeg = fun x => Int32.ofInt (cpy σ q0 q1 i.toNat j.toNat n.toNat q1 x) := by
    rw [oi_nat hii, oi_nat hj, oi_nat hn]
    funext x
    simp only [va_cpy, cpy, true_and]
    split <;> rfl
  have off : ∀ p, p ≠ q1 → ∀ x, cpy σ q0 q1 i.toNat j.toNat n.toNat p x = σ p x := by
    intro p hp x
    simp [cpy, hp]
  rw [e1, wo_set (σ' := cpy σ q0 q1 i.toNat j.toNat n.toNat) b1 (by unfold ce; rw [if_pos b2]) off] at hP1 hD1
  refine k _ rfl p l e s m args below meth c G H1 locs1 lsA hX ⟨hP1, hD1, hS1⟩ ⟨hO.1, fun w hw => hO.2.1 w (by simp [hw]), fun q x => ?_⟩ hv
  unfold cpy
  split <;> exact hO.2.2 _ _
/-- a method's entry: where its arguments lie -/
def lsO : List AV → List (Option AV)
  | [] => []
  | v :: t => if isL v then some v :: none :: lsO t else some v :: lsO t
theorem lsO_args (G : Gd) : ∀ (vs : List AV) (b i : Nat) (w : AV), (lsO vs)[i]? = some (some w) → (b + i, cv G w) ∈ lv_args b (vs.map (cv G))
  | [], b, i, w, h => by simp [lsO] at h
  | v :: t, b, i, w, h => by
      have hc := cat_cv (G := G) (v := v)
      cases hv : isL v with
      | true =>
        rw [hv] at hc
        simp only [lsO, hv, if_true] at h
        simp only [List.map_cons, lv_args, hc, if_true]
        match i, h with
        | 0, h =>
          have e : v = w := by simpa using h
          subst e
          exact List.mem_cons_self
        | 1, h => simp at h
        | i + 2, h =>
          have := lsO_args G t (b + 2) i w (by simpa using h)
          refine List.mem_cons_of_mem _ ?_
          rw [show b + (i + 2) = b + 2 + i by omega]
          exact this
      | false =>
        rw [hv] at hc
        simp only [lsO, hv] at h
        simp only [List.map_cons, lv_args, hc]
        match i, h with
        | 0, h =>
          have e : v = w := by simpa using h
          subst e
          exact List.mem_cons_self
        | i + 1, h =>
          have := lsO_args G t (b + 1) i w (by simpa using h)
          refine List.mem_cons_of_mem _ ?_
          rw [show b + (i + 1) = b + 1 + i by omega]
          exact this
theorem lsO_mem : ∀ (vs : List AV) (w : AV), some w ∈ lsO vs → w ∈ vs
  | [], w, h => by simp [lsO] at h
  | v :: t, w, h => by
      cases hv : isL v with
      | true =>
        simp only [lsO, hv, if_true] at h
        rcases List.mem_cons.mp h with h | h
        · rw [Option.some.inj h]; exact List.mem_cons_self
        · rcases List.mem_cons.mp h with h | h
          · cases h
          · exact List.mem_cons_of_mem _ (lsO_mem t w h)
      | false =>
        simp only [lsO, hv] at h
        rcases List.mem_cons.mp h with h | h
        · rw [Option.some.inj h]; exact List.mem_cons_self
        · exact List.mem_cons_of_mem _ (lsO_mem t w h)
theorem ct_of {vs : List AV} {n : Nat} (hp : plainName M.1.cls = true) (hw : (vs.map (fun v => if isL v then 2 else 1)).sum ≤ M.2.2.1) (k : AW L M r 0 (lsO vs ++ List.replicate n none) [] σ) : CT L M vs σ r := by
  intro hvs hσ l G sz
  refine Met.ofW (cc := M.2.1) (maxL := M.2.2.1) (ret := M.2.2.2.1) hp rfl ?_
  intro p e s m args below meth c s₁ B hml hv
  obtain ⟨rfl, hsz, hP, hK, hD0⟩ := hv
  have hts := atoms_spec (ws := wsM M) B.pre
  have hown : s.vm.findClass M.1.cls = some m.cls := findClass_of_methodNamed B.named
  subst hsz
  have hD := hD0.self (sz := s.heap.size)
  rw [va_A_wo] at hD
  have hlen : ∀ us : List AV, (lg_sl (us.map (cv G))).length = (us.map (fun v => if isL v then 2 else 1)).sum := by
    intro us
    induction us with
    | nil => rfl
    | cons v t ih =>
      simp only [List.map_cons, List.sum_cons, ← ih]
      cases hv : isL v with
      | true => rcases v with a | a | _ | a <;> first | (cases hv; done) | (simp [lg_sl, cv, Value.category]; omega)
      | false => rcases v with a | a | _ | a <;> first | (cases hv; done) | (simp [lg_sl, cv, Value.category]; omega)
  have hl := lv_entry (vs.map (cv G)) (n := M.2.2.1) (by rw [hlen]; exact hw)
  rw [lg_entry_eq]
  have hl2 := lv_less (l' := LVs G (lsO vs ++ List.replicate n none)) hl (fun x hx => by
    obtain ⟨w, h1, h2⟩ := LVs_mem.mp hx
    rcases x with ⟨i, u⟩
    dsimp only at h1 h2
    subst h2
    by_cases hi : i < (lsO vs).length
    · rw [List.getElem?_append_left hi] at h1
      have := lsO_args G vs 0 i w h1
      rwa [Nat.zero_add] at this
    · rw [List.getElem?_append_right (by omega)] at h1
      have h3 := List.mem_of_getElem? h1
      cases (List.eq_of_mem_replicate h3))
  refine k p l e s m _ below meth c G s.heap [] _ ⟨B.exec, B.bytes, hml, B.returns, B.notSynchronized, hown, fun w hw => hts w (List.mem_cons_of_mem _ hw), hK⟩ ⟨hP, hD, va_S.rf⟩ ⟨fun v hv => ?_, fun w hw => ?_, hσ⟩ hl2
  · rcases List.mem_append.mp hv with h | h
    · exact hvs v (lsO_mem vs v h)
    · have h2 := List.eq_of_mem_replicate h
      cases h2
  · cases hw
end Calls2
end
section
/-! ===== calls by their arity and answer; the functions' words ===== -/
section Calls3
variable {L : Lay} {M M2 : MI} {r : Option AV × SS} {pc idx : Nat} {ls : List (Option AV)} {st : List AV} {σ σ1 : SS}
theorem aw_V0i {q ci : Nat} {x : Int} (hd : decode M.2.1 pc = .ok (.invokevirtual idx, 3)) (hl : Cond.methodLink M.1.cls idx M2.1 ∈ gtb) (hm : MK M2 0) (hv : MV M2) (hR : RF M2 M) (hq : PL L q ci) (hci : ∃ (T : u_T) (N : Nat), vwCl[ci]? = some (M2.1.cls, T, N)) (hst : stw st ≤ 8) (hc : CT L M2 (vR (some q) :: []) σ (some (vI x), σ1)) (k : AW L M r (pc + 3) ls (vI x :: st) σ1) : AW L M r pc ls (vR (some q) :: st) σ :=
  aw_callV (as := []) hd hl hm hv hR hq hci rfl hst hc k
theorem aw_S0i {x : Int} (hd : decode M.2.1 pc = .ok (.invokestatic idx, 3)) (hl : Cond.methodLink M.1.cls idx M2.1 ∈ gtb) (hm : MK M2 0) (hv : Cond.static M2.1 ∈ gtb) (hR : RF M2 M) (hst : stw st ≤ 8) (hc : CT L M2 [] σ (some (vI x), σ1)) (k : AW L M r (pc + 3) ls (vI x :: st) σ1) : AW L M r pc ls (st) σ :=
  aw_callS (as := []) hd hl hm hv hR rfl hst hc k
theorem aw_V0l {q ci : Nat} {x : Int} (hd : decode M.2.1 pc = .ok (.invokevirtual idx, 3)) (hl : Cond.methodLink M.1.cls idx M2.1 ∈ gtb) (hm : MK M2 0) (hv : MV M2) (hR : RF M2 M) (hq : PL L q ci) (hci : ∃ (T : u_T) (N : Nat), vwCl[ci]? = some (M2.1.cls, T, N)) (hst : stw st ≤ 8) (hc : CT L M2 (vR (some q) :: []) σ (some (vL x), σ1)) (k : AW L M r (pc + 3) ls (vL x :: st) σ1) : AW L M r pc ls (vR (some q) :: st) σ :=
  aw_callV (as := []) hd hl hm hv hR hq hci rfl hst hc k
theorem aw_S0l {x : Int} (hd : decode M.2.1 pc = .ok (.invokestatic idx, 3)) (hl : Cond.methodLink M.1.cls idx M2.1 ∈ gtb) (hm : MK M2 0) (hv : Cond.static M2.1 ∈ gtb) (hR : RF M2 M) (hst : stw st ≤ 8) (hc : CT L M2 [] σ (some (vL x), σ1)) (k : AW L M r (pc + 3) ls (vL x :: st) σ1) : AW L M r pc ls (st) σ :=
  aw_callS (as := []) hd hl hm hv hR rfl hst hc k
theorem aw_V0r {q ci : Nat} {x : Option Nat} (hd : decode M.2.1 pc = .ok (.invokevirtual idx, 3)) (hl : Cond.methodLink M.1.cls idx M2.1 ∈ gtb) (hm : MK M2 0) (hv : MV M2) (hR : RF M2 M) (hq : PL L q ci) (hci : ∃ (T : u_T) (N : Nat), vwCl[ci]? = some (M2.1.cls, T, N)) (hst : stw st ≤ 8) (hc : CT L M2 (vR (some q) :: []) σ (some (vR x), σ1)) (k : AW L M r (pc + 3) ls (vR x :: st) σ1) : AW L M r pc ls (vR (some q) :: st) σ :=
  aw_callV (as := []) hd hl hm hv hR hq hci rfl hst hc k
theorem aw_S0r {x : Option Nat} (hd : decode M.2.1 pc = .ok (.invokestatic idx, 3)) (hl : Cond.methodLink M.1.cls idx M2.1 ∈ gtb) (hm : MK M2 0) (hv : Cond.static M2.1 ∈ gtb) (hR : RF M2 M) (hst : stw st ≤ 8) (hc : CT L M2 [] σ (some (vR x), σ1)) (k : AW L M r (pc + 3) ls (vR x :: st) σ1) : AW L M r pc ls (st) σ :=
  aw_callS (as := []) hd hl hm hv hR rfl hst hc k
theorem aw_V0v {q ci : Nat} (hd : decode M.2.1 pc = .ok (.invokevirtual idx, 3)) (hl : Cond.methodLink M.1.cls idx M2.1 ∈ gtb) (hm : MK M2 0) (hv : MV M2) (hR : RF M2 M) (hq : PL L q ci) (hci : ∃ (T : u_T) (N : Nat), vwCl[ci]? = some (M2.1.cls, T, N)) (hst : stw st ≤ 8) (hc : CT L M2 (vR (some q) :: []) σ (none, σ1)) (k : AW L M r (pc + 3) ls (st) σ1) : AW L M r pc ls (vR (some q) :: st) σ :=
  aw_callV (as := []) hd hl hm hv hR hq hci rfl hst hc k
theorem aw_S0v (hd : decode M.2.1 pc = .ok (.invokestatic idx, 3)) (hl : Cond.methodLink M.1.cls idx M2.1 ∈ gtb) (hm : MK M2 0) (hv : Cond.static M2.1 ∈ gtb) (hR : RF M2 M) (hst : stw st ≤ 8) (hc : CT L M2 [] σ (none, σ1)) (k : AW L M r (pc + 3) ls (st) σ1) : AW L M r pc ls (st) σ :=
  aw_callS (as := []) hd hl hm hv hR rfl hst hc k
theorem aw_V1i {q ci : Nat} {a1 : AV} {x : Int} (hd : decode M.2.1 pc = .ok (.invokevirtual idx, 3)) (hl : Cond.methodLink M.1.cls idx M2.1 ∈ gtb) (hm : MK M2 1) (hv : MV M2) (hR : RF M2 M) (hq : PL L q ci) (hci : ∃ (T : u_T) (N : Nat), vwCl[ci]? = some (M2.1.cls, T, N)) (hst : stw st ≤ 8) (hc : CT L M2 (vR (some q) :: [a1]) σ (some (vI x), σ1)) (k : AW L M r (pc + 3) ls (vI x :: st) σ1) : AW L M r pc ls (a1 :: vR (some q) :: st) σ :=
  aw_callV (as := [a1]) hd hl hm hv hR hq hci rfl hst hc k
theorem aw_S1i {a1 : AV} {x : Int} (hd : decode M.2.1 pc = .ok (.invokestatic idx, 3)) (hl : Cond.methodLink M.1.cls idx M2.1 ∈ gtb) (hm : MK M2 1) (hv : Cond.static M2.1 ∈ gtb) (hR : RF M2 M) (hst : stw st ≤ 8) (hc : CT L M2 [a1] σ (some (vI x), σ1)) (k : AW L M r (pc + 3) ls (vI x :: st) σ1) : AW L M r pc ls (a1 :: st) σ :=
  aw_callS (as := [a1]) hd hl hm hv hR rfl hst hc k
theorem aw_V1l {q ci : Nat} {a1 : AV} {x : Int} (hd : decode M.2.1 pc = .ok (.invokevirtual idx, 3)) (hl : Cond.methodLink M.1.cls idx M2.1 ∈ gtb) (hm : MK M2 1) (hv : MV M2) (hR : RF M2 M) (hq : PL L q ci) (hci : ∃ (T : u_T) (N : Nat), vwCl[ci]? = some (M2.1.cls, T, N)) (hst : stw st ≤ 8) (hc : CT L M2 (vR (some q) :: [a1]) σ (some (vL x), σ1)) (k : AW L M r (pc + 3) ls (vL x :: st) σ1) : AW L M r pc ls (a1 :: vR (some q) :: st) σ :=
  aw_callV (as := [a1]) hd hl hm hv hR hq hci rfl hst hc k
theorem aw_S1l {a1 : AV} {x : Int} (hd : decode M.2.1 pc = .ok (.invokestatic idx, 3)) (hl : Cond.methodLink M.1.cls idx M2.1 ∈ gtb) (hm : MK M2 1) (hv : Cond.static M2.1 ∈ gtb) (hR : RF M2 M) (hst : stw st ≤ 8) (hc : CT L M2 [a1] σ (some (vL x), σ1)) (k : AW L M r (pc + 3) ls (vL x :: st) σ1) : AW L M r pc ls (a1 :: st) σ :=
  aw_callS (as := [a1]) hd hl hm hv hR rfl hst hc k
theorem aw_V1r {q ci : Nat} {a1 : AV} {x : Option Nat} (hd : decode M.2.1 pc = .ok (.invokevirtual idx, 3)) (hl : Cond.methodLink M.1.cls idx M2.1 ∈ gtb) (hm : MK M2 1) (hv : MV M2) (hR : RF M2 M) (hq : PL L q ci) (hci : ∃ (T : u_T) (N : Nat), vwCl[ci]? = some (M2.1.cls, T, N)) (hst : stw st ≤ 8) (hc : CT L M2 (vR (some q) :: [a1]) σ (some (vR x), σ1)) (k : AW L M r (pc + 3) ls (vR x :: st) σ1) : AW L M r pc ls (a1 :: vR (some q) :: st) σ :=
  aw_callV (as := [a1]) hd hl hm hv hR hq hci rfl hst hc k
theorem aw_S1r {a1 : AV} {x : Option Nat} (hd : decode M.2.1 pc = .ok (.invokestatic idx, 3)) (hl : Cond.methodLink M.1.cls idx M2.1 ∈ gtb) (hm : MK M2 1) (hv : Cond.static M2.1 ∈ gtb) (hR : RF M2 M) (hst : stw st ≤ 8) (hc : CT L M2 [a1] σ (some (vR x), σ1)) (k : AW L M r (pc + 3) ls (vR x :: st) σ1) : AW L M r pc ls (a1 :: st) σ :=
  aw_callS (as := [a1]) hd hl hm hv hR rfl hst hc k
theorem aw_V1v {q ci : Nat} {a1 : AV} (hd : decode M.2.1 pc = .ok (.invokevirtual idx, 3)) (hl : Cond.methodLink M.1.cls idx M2.1 ∈ gtb) (hm : MK M2 1) (hv : MV M2) (hR : RF M2 M) (hq : PL L q ci) (hci : ∃ (T : u_T) (N : Nat), vwCl[ci]? = some (M2.1.cls, T, N)) (hst : stw st ≤ 8) (hc : CT L M2 (vR (some q) :: [a1]) σ (none, σ1)) (k : AW L M r (pc + 3) ls (st) σ1) : AW L M r pc ls (a1 :: vR (some q) :: st) σ :=
  aw_callV (as := [a1]) hd hl hm hv hR hq hci rfl hst hc k
theorem aw_S1v {a1 : AV} (hd : decode M.2.1 pc = .ok (.invokestatic idx, 3)) (hl : Cond.methodLink M.1.cls idx M2.1 ∈ gtb) (hm : MK M2 1) (hv : Cond.static M2.1 ∈ gtb) (hR : RF M2 M) (hst : stw st ≤ 8) (hc : CT L M2 [a1] σ (none, σ1)) (k : AW L M r (pc + 3) ls (st) σ1) : AW L M r pc ls (a1 :: st) σ :=
  aw_callS (as := [a1]) hd hl hm hv hR rfl hst hc k
theorem aw_V2i {q ci : Nat} {a1 a2 : AV} {x : Int} (hd : decode M.2.1 pc = .ok (.invokevirtual idx, 3)) (hl : Cond.methodLink M.1.cls idx M2.1 ∈ gtb) (hm : MK M2 2) (hv : MV M2) (hR : RF M2 M) (hq : PL L q ci) (hci : ∃ (T : u_T) (N : Nat), vwCl[ci]? = some (M2.1.cls, T, N)) (hst : stw st ≤ 8) (hc : CT L M2 (vR (some q) :: [a1, a2]) σ (some (vI x), σ1)) (k : AW L M r (pc + 3) ls (vI x :: st) σ1) : AW L M r pc ls (a2 :: a1 :: vR (some q) :: st) σ :=
  aw_callV (as := [a1, a2]) hd hl hm hv hR hq hci rfl hst hc k
theorem aw_S2i {a1 a2 : AV} {x : Int} (hd : decode M.2.1 pc = .ok (.invokestatic idx, 3)) (hl : Cond.methodLink M.1.cls idx M2.1 ∈ gtb) (hm : MK M2 2) (hv : Cond.static M2.1 ∈ gtb) (hR : RF M2 M) (hst : stw st ≤ 8) (hc : CT L M2 [a1, a2] σ (some (vI x), σ1)) (k : AW L M r (pc + 3) ls (vI x :: st) σ1) : AW L M r pc ls (a2 :: a1 :: st) σ :=
  aw_callS (as := [a1, a2]) hd hl hm hv hR rfl hst hc k
theorem aw_V2l {q ci : Nat} {a1 a2 : AV} {x : Int} (hd : decode M.2.1 pc = .ok (.invokevirtual idx, 3)) (hl : Cond.methodLink M.1.cls idx M2.1 ∈ gtb) (hm : MK M2 2) (hv : MV M2) (hR : RF M2 M) (hq : PL L q ci) (hci : ∃ (T : u_T) (N : Nat), vwCl[ci]? = some (M2.1.cls, T, N)) (hst : stw st ≤ 8) (hc : CT L M2 (vR (some q) :: [a1, a2]) σ (some (vL x), σ1)) (k : AW L M r (pc + 3) ls (vL x :: st) σ1) : AW L M r pc ls (a2 :: a1 :: vR (some q) :: st) σ :=
  aw_callV (as := [a1, a2]) hd hl hm hv hR hq hci rfl hst hc k
theorem aw_S2l {a1 a2 : AV} {x : Int} (hd : decode M.2.1 pc = .ok (.invokestatic idx, 3)) (hl : Cond.methodLink M.1.cls idx M2.1 ∈ gtb) (hm : MK M2 2) (hv : Cond.static M2.1 ∈ gtb) (hR : RF M2 M) (hst : stw st ≤ 8) (hc : CT L M2 [a1, a2] σ (some (vL x), σ1)) (k : AW L M r (pc + 3) ls (vL x :: st) σ1) : AW L M r pc ls (a2 :: a1 :: st) σ :=
  aw_callS (as := [a1, a2]) hd hl hm hv hR rfl hst hc k
theorem aw_V2r {q ci : Nat} {a1 a2 : AV} {x : Option Nat} (hd : decode M.2.1 pc = .ok (.invokevirtual idx, 3)) (hl : Cond.methodLink M.1.cls idx M2.1 ∈ gtb) (hm : MK M2 2) (hv : MV M2) (hR : RF M2 M) (hq : PL L q ci) (hci : ∃ (T : u_T) (N : Nat), vwCl[ci]? = some (M2.1.cls, T, N)) (hst : stw st ≤ 8) (hc : CT L M2 (vR (some q) :: [a1, a2]) σ (some (vR x), σ1)) (k : AW L M r (pc + 3) ls (vR x :: st) σ1) : AW L M r pc ls (a2 :: a1 :: vR (some q) :: st) σ :=
  aw_callV (as := [a1, a2]) hd hl hm hv hR hq hci rfl hst hc k
theorem aw_S2r {a1 a2 : AV} {x : Option Nat} (hd : decode M.2.1 pc = .ok (.invokestatic idx, 3)) (hl : Cond.methodLink M.1.cls idx M2.1 ∈ gtb) (hm : MK M2 2) (hv : Cond.static M2.1 ∈ gtb) (hR : RF M2 M) (hst : stw st ≤ 8) (hc : CT L M2 [a1, a2] σ (some (vR x), σ1)) (k : AW L M r (pc + 3) ls (vR x :: st) σ1) : AW L M r pc ls (a2 :: a1 :: st) σ :=
  aw_callS (as := [a1, a2]) hd hl hm hv hR rfl hst hc k
theorem aw_V2v {q ci : Nat} {a1 a2 : AV} (hd : decode M.2.1 pc = .ok (.invokevirtual idx, 3)) (hl : Cond.methodLink M.1.cls idx M2.1 ∈ gtb) (hm : MK M2 2) (hv : MV M2) (hR : RF M2 M) (hq : PL L q ci) (hci : ∃ (T : u_T) (N : Nat), vwCl[ci]? = some (M2.1.cls, T, N)) (hst : stw st ≤ 8) (hc : CT L M2 (vR (some q) :: [a1, a2]) σ (none, σ1)) (k : AW L M r (pc + 3) ls (st) σ1) : AW L M r pc ls (a2 :: a1 :: vR (some q) :: st) σ :=
  aw_callV (as := [a1, a2]) hd hl hm hv hR hq hci rfl hst hc k
theorem aw_S2v {a1 a2 : AV} (hd : decode M.2.1 pc = .ok (.invokestatic idx, 3)) (hl : Cond.methodLink M.1.cls idx M2.1 ∈ gtb) (hm : MK M2 2) (hv : Cond.static M2.1 ∈ gtb) (hR : RF M2 M) (hst : stw st ≤ 8) (hc : CT L M2 [a1, a2] σ (none, σ1)) (k : AW L M r (pc + 3) ls (st) σ1) : AW L M r pc ls (a2 :: a1 :: st) σ :=
  aw_callS (as := [a1, a2]) hd hl hm hv hR rfl hst hc k
theorem aw_V3i {q ci : Nat} {a1 a2 a3 : AV} {x : Int} (hd : decode M.2.1 pc = .ok (.invokevirtual idx, 3)) (hl : Cond.methodLink M.1.cls idx M2.1 ∈ gtb) (hm : MK M2 3) (hv : MV M2) (hR : RF M2 M) (hq : PL L q ci) (hci : ∃ (T : u_T) (N : Nat), vwCl[ci]? = some (M2.1.cls, T, N)) (hst : stw st ≤ 8) (hc : CT L M2 (vR (some q) :: [a1, a2, a3]) σ (some (vI x), σ1)) (k : AW L M r (pc + 3) ls (vI x :: st) σ1) : AW L M r pc ls (a3 :: a2 :: a1 :: vR (some q) :: st) σ :=
  aw_callV (as := [a1, a2, a3]) hd hl hm hv hR hq hci rfl hst hc k
theorem aw_S3i {a1 a2 a3 : AV} {x : Int} (hd : decode M.2.1 pc = .ok (.invokestatic idx, 3)) (hl : Cond.methodLink M.1.cls idx M2.1 ∈ gtb) (hm : MK M2 3) (hv : Cond.static M2.1 ∈ gtb) (hR : RF M2 M) (hst : stw st ≤ 8) (hc : CT L M2 [a1, a2, a3] σ (some (vI x), σ1)) (k : AW L M r (pc + 3) ls (vI x :: st) σ1) : AW L M r pc ls (a3 :: a2 :: a1 :: st) σ :=
  aw_callS (as := [a1, a2, a3]) hd hl hm hv hR rfl hst hc k
theorem aw_V3l {q ci : Nat} {a1 a2 a3 : AV} {x : Int} (hd : decode M.2.1 pc = .ok (.invokevirtual idx, 3)) (hl : Cond.methodLink M.1.cls idx M2.1 ∈ gtb) (hm : MK M2 3) (hv : MV M2) (hR : RF M2 M) (hq : PL L q ci) (hci : ∃ (T : u_T) (N : Nat), vwCl[ci]? = some (M2.1.cls, T, N)) (hst : stw st ≤ 8) (hc : CT L M2 (vR (some q) :: [a1, a2, a3]) σ (some (vL x), σ1)) (k : AW L M r (pc + 3) ls (vL x :: st) σ1) : AW L M r pc ls (a3 :: a2 :: a1 :: vR (some q) :: st) σ :=
  aw_callV (as := [a1, a2, a3]) hd hl hm hv hR hq hci rfl hst hc k
theorem aw_S3l {a1 a2 a3 : AV} {x : Int} (hd : decode M.2.1 pc = .ok (.invokestatic idx, 3)) (hl : Cond.methodLink M.1.cls idx M2.1 ∈ gtb) (hm : MK M2 3) (hv : Cond.static M2.1 ∈ gtb) (hR : RF M2 M) (hst : stw st ≤ 8) (hc : CT L M2 [a1, a2, a3] σ (some (vL x), σ1)) (k : AW L M r (pc + 3) ls (vL x :: st) σ1) : AW L M r pc ls (a3 :: a2 :: a1 :: st) σ :=
  aw_callS (as := [a1, a2, a3]) hd hl hm hv hR rfl hst hc k
theorem aw_V3r {q ci : Nat} {a1 a2 a3 : AV} {x : Option Nat} (hd : decode M.2.1 pc = .ok (.invokevirtual idx, 3)) (hl : Cond.methodLink M.1.cls idx M2.1 ∈ gtb) (hm : MK M2 3) (hv : MV M2) (hR : RF M2 M) (hq : PL L q ci) (hci : ∃ (T : u_T) (N : Nat), vwCl[ci]? = some (M2.1.cls, T, N)) (hst : stw st ≤ 8) (hc : CT L M2 (vR (some q) :: [a1, a2, a3]) σ (some (vR x), σ1)) (k : AW L M r (pc + 3) ls (vR x :: st) σ1) : AW L M r pc ls (a3 :: a2 :: a1 :: vR (some q) :: st) σ :=
  aw_callV (as := [a1, a2, a3]) hd hl hm hv hR hq hci rfl hst hc k
theorem aw_S3r {a1 a2 a3 : AV} {x : Option Nat} (hd : decode M.2.1 pc = .ok (.invokestatic idx, 3)) (hl : Cond.methodLink M.1.cls idx M2.1 ∈ gtb) (hm : MK M2 3) (hv : Cond.static M2.1 ∈ gtb) (hR : RF M2 M) (hst : stw st ≤ 8) (hc : CT L M2 [a1, a2, a3] σ (some (vR x), σ1)) (k : AW L M r (pc + 3) ls (vR x :: st) σ1) : AW L M r pc ls (a3 :: a2 :: a1 :: st) σ :=
  aw_callS (as := [a1, a2, a3]) hd hl hm hv hR rfl hst hc k
theorem aw_V3v {q ci : Nat} {a1 a2 a3 : AV} (hd : decode M.2.1 pc = .ok (.invokevirtual idx, 3)) (hl : Cond.methodLink M.1.cls idx M2.1 ∈ gtb) (hm : MK M2 3) (hv : MV M2) (hR : RF M2 M) (hq : PL L q ci) (hci : ∃ (T : u_T) (N : Nat), vwCl[ci]? = some (M2.1.cls, T, N)) (hst : stw st ≤ 8) (hc : CT L M2 (vR (some q) :: [a1, a2, a3]) σ (none, σ1)) (k : AW L M r (pc + 3) ls (st) σ1) : AW L M r pc ls (a3 :: a2 :: a1 :: vR (some q) :: st) σ :=
  aw_callV (as := [a1, a2, a3]) hd hl hm hv hR hq hci rfl hst hc k
theorem aw_S3v {a1 a2 a3 : AV} (hd : decode M.2.1 pc = .ok (.invokestatic idx, 3)) (hl : Cond.methodLink M.1.cls idx M2.1 ∈ gtb) (hm : MK M2 3) (hv : Cond.static M2.1 ∈ gtb) (hR : RF M2 M) (hst : stw st ≤ 8) (hc : CT L M2 [a1, a2, a3] σ (none, σ1)) (k : AW L M r (pc + 3) ls (st) σ1) : AW L M r pc ls (a3 :: a2 :: a1 :: st) σ :=
  aw_callS (as := [a1, a2, a3]) hd hl hm hv hR rfl hst hc k
theorem aw_V4i {q ci : Nat} {a1 a2 a3 a4 : AV} {x : Int} (hd : decode M.2.1 pc = .ok (.invokevirtual idx, 3)) (hl : Cond.methodLink M.1.cls idx M2.1 ∈ gtb) (hm : MK M2 4) (hv : MV M2) (hR : RF M2 M) (hq : PL L q ci) (hci : ∃ (T : u_T) (N : Nat), vwCl[ci]? = some (M2.1.cls, T, N)) (hst : stw st ≤ 8) (hc : CT L M2 (vR (some q) :: [a1, a2, a3, a4]) σ (some (vI x), σ1)) (k : AW L M r (pc + 3) ls (vI x :: st) σ1) : AW L M r pc ls (a4 :: a3 :: a2 :: a1 :: vR (some q) :: st) σ :=
  aw_callV (as := [a1, a2, a3, a4]) hd hl hm hv hR hq hci rfl hst hc k
theorem aw_S4i {a1 a2 a3 a4 : AV} {x : Int} (hd : decode M.2.1 pc = .ok (.invokestatic idx, 3)) (hl : Cond.methodLink M.1.cls idx M2.1 ∈ gtb) (hm : MK M2 4) (hv : Cond.static M2.1 ∈ gtb) (hR : RF M2 M) (hst : stw st ≤ 8) (hc : CT L M2 [a1, a2, a3, a4] σ (some (vI x), σ1)) (k : AW L M r (pc + 3) ls (vI x :: st) σ1) : AW L M r pc ls (a4 :: a3 :: a2 :: a1 :: st) σ :=
  aw_callS (as := [a1, a2, a3, a4]) hd hl hm hv hR rfl hst hc k
theorem aw_V4l {q ci : Nat} {a1 a2 a3 a4 : AV} {x : Int} (hd : decode M.2.1 pc = .ok (.invokevirtual idx, 3)) (hl : Cond.methodLink M.1.cls idx M2.1 ∈ gtb) (hm : MK M2 4) (hv : MV M2) (hR : RF M2 M) (hq : PL L q ci) (hci : ∃ (T : u_T) (N : Nat), vwCl[ci]? = some (M2.1.cls, T, N)) (hst : stw st ≤ 8) (hc : CT L M2 (vR (some q) :: [a1, a2, a3, a4]) σ (some (vL x), σ1)) (k : AW L M r (pc + 3) ls (vL x :: st) σ1) : AW L M r pc ls (a4 :: a3 :: a2 :: a1 :: vR (some q) :: st) σ :=
  aw_callV (as := [a1, a2, a3, a4]) hd hl hm hv hR hq hci rfl hst hc k
theorem aw_S4l {a1 a2 a3 a4 : AV} {x : Int} (hd : decode M.2.1 pc = .ok (.invokestatic idx, 3)) (hl : Cond.methodLink M.1.cls idx M2.1 ∈ gtb) (hm : MK M2 4) (hv : Cond.static M2.1 ∈ gtb) (hR : RF M2 M) (hst : stw st ≤ 8) (hc : CT L M2 [a1, a2, a3, a4] σ (some (vL x), σ1)) (k : AW L M r (pc + 3) ls (vL x :: st) σ1) : AW L M r pc ls (a4 :: a3 :: a2 :: a1 :: st) σ :=
  aw_callS (as := [a1, a2, a3, a4]) hd hl hm hv hR rfl hst hc k
theorem aw_V4r {q ci : Nat} {a1 a2 a3 a4 : AV} {x : Option Nat} (hd : decode M.2.1 pc = .ok (.invokevirtual idx, 3)) (hl : Cond.methodLink M.1.cls idx M2.1 ∈ gtb) (hm : MK M2 4) (hv : MV M2) (hR : RF M2 M) (hq : PL L q ci) (hci : ∃ (T : u_T) (N : Nat), vwCl[ci]? = some (M2.1.cls, T, N)) (hst : stw st ≤ 8) (hc : CT L M2 (vR (some q) :: [a1, a2, a3, a4]) σ (some (vR x), σ1)) (k : AW L M r (pc + 3) ls (vR x :: st) σ1) : AW L M r pc ls (a4 :: a3 :: a2 :: a1 :: vR (some q) :: st) σ :=
  aw_callV (as := [a1, a2, a3, a4]) hd hl hm hv hR hq hci rfl hst hc k
theorem aw_S4r {a1 a2 a3 a4 : AV} {x : Option Nat} (hd : decode M.2.1 pc = .ok (.invokestatic idx, 3)) (hl : Cond.methodLink M.1.cls idx M2.1 ∈ gtb) (hm : MK M2 4) (hv : Cond.static M2.1 ∈ gtb) (hR : RF M2 M) (hst : stw st ≤ 8) (hc : CT L M2 [a1, a2, a3, a4] σ (some (vR x), σ1)) (k : AW L M r (pc + 3) ls (vR x :: st) σ1) : AW L M r pc ls (a4 :: a3 :: a2 :: a1 :: st) σ :=
  aw_callS (as := [a1, a2, a3, a4]) hd hl hm hv hR rfl hst hc k
theorem aw_V4v {q ci : Nat} {a1 a2 a3 a4 : AV} (hd : decode M.2.1 pc = .ok (.invokevirtual idx, 3)) (hl : Cond.methodLink M.1.cls idx M2.1 ∈ gtb) (hm : MK M2 4) (hv : MV M2) (hR : RF M2 M) (hq : PL L q ci) (hci : ∃ (T : u_T) (N : Nat), vwCl[ci]? = some (M2.1.cls, T, N)) (hst : stw st ≤ 8) (hc : CT L M2 (vR (some q) :: [a1, a2, a3, a4]) σ (none, σ1)) (k : AW L M r (pc + 3) ls (st) σ1) : AW L M r pc ls (a4 :: a3 :: a2 :: a1 :: vR (some q) :: st) σ :=
  aw_callV (as := [a1, a2, a3, a4]) hd hl hm hv hR hq hci rfl hst hc k
theorem aw_S4v {a1 a2 a3 a4 : AV} (hd : decode M.2.1 pc = .ok (.invokestatic idx, 3)) (hl : Cond.methodLink M.1.cls idx M2.1 ∈ gtb) (hm : MK M2 4) (hv : Cond.static M2.1 ∈ gtb) (hR : RF M2 M) (hst : stw st ≤ 8) (hc : CT L M2 [a1, a2, a3, a4] σ (none, σ1)) (k : AW L M r (pc + 3) ls (st) σ1) : AW L M r pc ls (a4 :: a3 :: a2 :: a1 :: st) σ :=
  aw_callS (as := [a1, a2, a3, a4]) hd hl hm hv hR rfl hst hc k
theorem aw_V5i {q ci : Nat} {a1 a2 a3 a4 a5 : AV} {x : Int} (hd : decode M.2.1 pc = .ok (.invokevirtual idx, 3)) (hl : Cond.methodLink M.1.cls idx M2.1 ∈ gtb) (hm : MK M2 5) (hv : MV M2) (hR : RF M2 M) (hq : PL L q ci) (hci : ∃ (T : u_T) (N : Nat), vwCl[ci]? = some (M2.1.cls, T, N)) (hst : stw st ≤ 8) (hc : CT L M2 (vR (some q) :: [a1, a2, a3, a4, a5]) σ (some (vI x), σ1)) (k : AW L M r (pc + 3) ls (vI x :: st) σ1) : AW L M r pc ls (a5 :: a4 :: a3 :: a2 :: a1 :: vR (some q) :: st) σ :=
  aw_callV (as := [a1, a2, a3, a4, a5]) hd hl hm hv hR hq hci rfl hst hc k
theorem aw_S5i {a1 a2 a3 a4 a5 : AV} {x : Int} (hd : decode M.2.1 pc = .ok (.invokestatic idx, 3)) (hl : Cond.methodLink M.1.cls idx M2.1 ∈ gtb) (hm : MK M2 5) (hv : Cond.static M2.1 ∈ gtb) (hR : RF M2 M) (hst : stw st ≤ 8) (hc : CT L M2 [a1, a2, a3, a4, a5] σ (some (vI x), σ1)) (k : AW L M r (pc + 3) ls (vI x :: st) σ1) : AW L M r pc ls (a5 :: a4 :: a3 :: a2 :: a1 :: st) σ :=
  aw_callS (as := [a1, a2, a3, a4, a5]) hd hl hm hv hR rfl hst hc k
theorem aw_V5l {q ci : Nat} {a1 a2 a3 a4 a5 : AV} {x : Int} (hd : decode M.2.1 pc = .ok (.invokevirtual idx, 3)) (hl : Cond.methodLink M.1.cls idx M2.1 ∈ gtb) (hm : MK M2 5) (hv : MV M2) (hR : RF M2 M) (hq : PL L q ci) (hci : ∃ (T : u_T) (N : Nat), vwCl[ci]? = some (M2.1.cls, T, N)) (hst : stw st ≤ 8) (hc : CT L M2 (vR (some q) :: [a1, a2, a3, a4, a5]) σ (some (vL x), σ1)) (k : AW L M r (pc + 3) ls (vL x :: st) σ1) : AW L M r pc ls (a5 :: a4 :: a3 :: a2 :: a1 :: vR (some q) :: st) σ :=
  aw_callV (as := [a1, a2, a3, a4, a5]) hd hl hm hv hR hq hci rfl hst hc k
theorem aw_S5l {a1 a2 a3 a4 a5 : AV} {x : Int} (hd : decode M.2.1 pc = .ok (.invokestatic idx, 3)) (hl : Cond.methodLink M.1.cls idx M2.1 ∈ gtb) (hm : MK M2 5) (hv : Cond.static M2.1 ∈ gtb) (hR : RF M2 M) (hst : stw st ≤ 8) (hc : CT L M2 [a1, a2, a3, a4, a5] σ (some (vL x), σ1)) (k : AW L M r (pc + 3) ls (vL x :: st) σ1) : AW L M r pc ls (a5 :: a4 :: a3 :: a2 :: a1 :: st) σ :=
  aw_callS (as := [a1, a2, a3, a4, a5]) hd hl hm hv hR rfl hst hc k
theorem aw_V5r {q ci : Nat} {a1 a2 a3 a4 a5 : AV} {x : Option Nat} (hd : decode M.2.1 pc = .ok (.invokevirtual idx, 3)) (hl : Cond.methodLink M.1.cls idx M2.1 ∈ gtb) (hm : MK M2 5) (hv : MV M2) (hR : RF M2 M) (hq : PL L q ci) (hci : ∃ (T : u_T) (N : Nat), vwCl[ci]? = some (M2.1.cls, T, N)) (hst : stw st ≤ 8) (hc : CT L M2 (vR (some q) :: [a1, a2, a3, a4, a5]) σ (some (vR x), σ1)) (k : AW L M r (pc + 3) ls (vR x :: st) σ1) : AW L M r pc ls (a5 :: a4 :: a3 :: a2 :: a1 :: vR (some q) :: st) σ :=
  aw_callV (as := [a1, a2, a3, a4, a5]) hd hl hm hv hR hq hci rfl hst hc k
theorem aw_S5r {a1 a2 a3 a4 a5 : AV} {x : Option Nat} (hd : decode M.2.1 pc = .ok (.invokestatic idx, 3)) (hl : Cond.methodLink M.1.cls idx M2.1 ∈ gtb) (hm : MK M2 5) (hv : Cond.static M2.1 ∈ gtb) (hR : RF M2 M) (hst : stw st ≤ 8) (hc : CT L M2 [a1, a2, a3, a4, a5] σ (some (vR x), σ1)) (k : AW L M r (pc + 3) ls (vR x :: st) σ1) : AW L M r pc ls (a5 :: a4 :: a3 :: a2 :: a1 :: st) σ :=
  aw_callS (as := [a1, a2, a3, a4, a5]) hd hl hm hv hR rfl hst hc k
theorem aw_V5v {q ci : Nat} {a1 a2 a3 a4 a5 : AV} (hd : decode M.2.1 pc = .ok (.invokevirtual idx, 3)) (hl : Cond.methodLink M.1.cls idx M2.1 ∈ gtb) (hm : MK M2 5) (hv : MV M2) (hR : RF M2 M) (hq : PL L q ci) (hci : ∃ (T : u_T) (N : Nat), vwCl[ci]? = some (M2.1.cls, T, N)) (hst : stw st ≤ 8) (hc : CT L M2 (vR (some q) :: [a1, a2, a3, a4, a5]) σ (none, σ1)) (k : AW L M r (pc + 3) ls (st) σ1) : AW L M r pc ls (a5 :: a4 :: a3 :: a2 :: a1 :: vR (some q) :: st) σ :=
  aw_callV (as := [a1, a2, a3, a4, a5]) hd hl hm hv hR hq hci rfl hst hc k
theorem aw_S5v {a1 a2 a3 a4 a5 : AV} (hd : decode M.2.1 pc = .ok (.invokestatic idx, 3)) (hl : Cond.methodLink M.1.cls idx M2.1 ∈ gtb) (hm : MK M2 5) (hv : Cond.static M2.1 ∈ gtb) (hR : RF M2 M) (hst : stw st ≤ 8) (hc : CT L M2 [a1, a2, a3, a4, a5] σ (none, σ1)) (k : AW L M r (pc + 3) ls (st) σ1) : AW L M r pc ls (a5 :: a4 :: a3 :: a2 :: a1 :: st) σ :=
  aw_callS (as := [a1, a2, a3, a4, a5]) hd hl hm hv hR rfl hst hc k
theorem aw_name {a : Int} (k : ∀ x, x = a → AW L M r pc ls (vI x :: st) σ) : AW L M r pc ls (vI a :: st) σ := k a rfl
theorem aw_istore_nA {j : Fin 4} {i : Nat} {a : Int} (hd : decode M.2.1 pc = .ok (.istore_n j, 1)) (hi : (j : Nat) = i) (hn : i < M.2.2.1) (hb : nlo ls i = true) (k : AW L M r (pc + 1) (ls.set i (some (vI a))) st σ) : AW L M r pc ls (vI a :: st) σ := aw_istore_n hd hi hn hb (fun x e => by rw [e]; exact k)
theorem aw_istoreA {i : Nat} {a : Int} (hd : decode M.2.1 pc = .ok (.istore i, 2)) (hn : i < M.2.2.1) (hb : nlo ls i = true) (k : AW L M r (pc + 2) (ls.set i (some (vI a))) st σ) : AW L M r pc ls (vI a :: st) σ := aw_istore hd hn hb (fun x e => by rw [e]; exact k)
theorem aw_lstore_nA {j : Fin 4} {i : Nat} {a : Int} (hd : decode M.2.1 pc = .ok (.lstore_n j, 1)) (hi : (j : Nat) = i) (hn : i + 1 < M.2.2.1) (hb : nlo ls i = true) (k : AW L M r (pc + 1) ((ls.set i (some (vL a))).set (i + 1) none) st σ) : AW L M r pc ls (vL a :: st) σ := aw_lstore_n hd hi hn hb (fun x e => by rw [e]; exact k)
theorem aw_lstoreA {i : Nat} {a : Int} (hd : decode M.2.1 pc = .ok (.lstore i, 2)) (hn : i + 1 < M.2.2.1) (hb : nlo ls i = true) (k : AW L M r (pc + 2) ((ls.set i (some (vL a))).set (i + 1) none) st σ) : AW L M r pc ls (vL a :: st) σ := aw_lstore hd hn hb (fun x e => by rw [e]; exact k)
end Calls3
def gx {β : Type} (i : Int) (n : Nat) (x : Option β) : Option β := if 0 ≤ i ∧ i < n then x else none
def gb {β : Type} (v : Int) (x : Option β) : Option β := if v = 0 ∨ v = 1 then x else none
def gc {β : Type} (i j n : Int) (n0 n1 : Nat) (x : Option β) : Option β := if 0 ≤ i ∧ 0 ≤ j ∧ 0 ≤ n ∧ i + n ≤ n0 ∧ j + n ≤ n1 then x else none
def sb {α β : Type} (v : α) (K : α → Option β) : Option β := K v
def cb {α β : Type} (o : Option (α × SS)) (K : α → SS → Option β) : Option β := match o with
  | none => none
  | some y => K y.1 y.2
def bn {α β : Type} (o : Option α) (K : α → Option β) : Option β := match o with
  | none => none
  | some y => K y
def ob {β : Type} (o : Option Nat) (A : Option β) (B : Nat → Option β) : Option β := match o with
  | none => A
  | some q => B q
theorem gx_e {β : Type} {i : Int} {n : Nat} {x : Option β} {r : β} (h : gx i n x = some r) : (0 ≤ i ∧ i < n) ∧ x = some r := by
  unfold gx at h
  split at h
  · exact ⟨by assumption, h⟩
  · cases h
theorem gb_e {β : Type} {v : Int} {x : Option β} {r : β} (h : gb v x = some r) : (v = 0 ∨ v = 1) ∧ x = some r := by
  unfold gb at h
  split at h
  · exact ⟨by assumption, h⟩
  · cases h
theorem gc_e {β : Type} {i j n : Int} {n0 n1 : Nat} {x : Option β} {r : β} (h : gc i j n n0 n1 x = some r) : (0 ≤ i ∧ 0 ≤ j ∧ 0 ≤ n ∧ i + n ≤ n0 ∧ j + n ≤ n1) ∧ x = some r := by
  unfold gc at h
  split at h
  · exact ⟨by assumption, h⟩
  · cases h
theorem sb_e {α β : Type} {v y : α} {K : α → Option β} {r : β} (h : sb v K = some r) (e : y = v) : K y = some r := by
  subst e
  exact h
theorem cb_e {α β : Type} {o : Option (α × SS)} {K : α → SS → Option β} {r : β} (h : cb o K = some r) : ∃ x σ1, o = some (x, σ1) ∧ K x σ1 = some r := by
  unfold cb at h
  split at h
  · cases h
  · rename_i y
    exact ⟨y.1, y.2, rfl, h⟩
theorem bn_e {α β : Type} {o : Option α} {K : α → Option β} {r : β} (h : bn o K = some r) : ∃ x, o = some x ∧ K x = some r := by
  unfold bn at h
  split at h
  · cases h
  · rename_i y
    exact ⟨y, rfl, h⟩
theorem ob_n {β : Type} {A : Option β} {B : Nat → Option β} {r : β} (h : ob none A B = some r) : A = some r := h
theorem ob_s {β : Type} {q : Nat} {A : Option β} {B : Nat → Option β} {r : β} (h : ob (some q) A B = some r) : B q = some r := h
theorem ip {β : Type} {c : Prop} {d : Decidable c} {x y : Option β} {r : β} (hc : c) (h : (if c then x else y) = some r) : x = some r := by
  rw [if_pos hc] at h
  exact h
theorem ic {β : Type} {c : Prop} {d : Decidable c} {x y : Option β} {r : β} (hc : ¬ c) (h : (if c then x else y) = some r) : y = some r := by
  rw [if_neg hc] at h
  exact h
end
section
/-! ===== the two layouts ===== -/
def LCk : List Nat := [9, 3, 0, 0, 0, 0, 0, 0, 0, 0, 4, 6, 0, 0, 0, 0, 0, 6, 0, 0, 0, 0, 8, 6, 0, 0, 0, 0, 6, 0, 0, 0, 0, 0, 0, 5, 1, 0, 0, 0, 0, 2, 7, 0, 7, 0, 7, 0, 7, 0]
def LCl : List Nat := [10, 13, 40, 40, 40, 40, 40, 40, 40, 40, 4, 4, 2560, 2560, 2560, 2560, 40, 4, 1, 1, 1, 1, 7, 4, 40, 40, 40, 40, 4, 64, 64, 64, 64, 100, 40, 6, 40, 40, 40, 40, 40, 4, 3, 60, 3, 60, 3, 60, 3, 60]
def LCr : List (List (Option Nat)) := [[some 1, some 10, some 17, some 22, some 35, some 41], [some 2, some 3, some 4, some 5, some 6, some 7, some 8, some 9], [], [], [], [], [], [], [], [], [some 11, some 16], [some 12, some 13, some 14, some 15], [], [], [], [], [], [some 18, some 19, some 20, some 21], [], [], [], [], [some 23, some 28, some 33, some 34], [some 24, some 25, some 26, some 27], [], [], [], [], [some 29, some 30, some 31, some 32], [], [], [], [], [], [], [some 36, some 37, some 38, some 39, some 40], [], [], [], [], [], [some 42, some 44, some 46, some 48], [some 43], [], [some 45], [], [some 47], [], [some 49], []]
def LC : Lay := (50, fun q => LCk.getD q 0, fun q => LCl.getD q 0, fun q k => (LCr.getD q []).getD k none)
theorem pC_0 : PL LC 0 6 := ⟨by decide, rfl, fun C T N h => by cases h; rfl⟩
theorem pC_1 : PL LC 1 0 := ⟨by decide, rfl, fun C T N h => by cases h; rfl⟩
theorem aC_2 : AR LC 2 0 40 := ⟨by decide, rfl, rfl⟩
theorem aC_3 : AR LC 3 0 40 := ⟨by decide, rfl, rfl⟩
theorem aC_4 : AR LC 4 0 40 := ⟨by decide, rfl, rfl⟩
theorem aC_5 : AR LC 5 0 40 := ⟨by decide, rfl, rfl⟩
theorem aC_6 : AR LC 6 0 40 := ⟨by decide, rfl, rfl⟩
theorem aC_7 : AR LC 7 0 40 := ⟨by decide, rfl, rfl⟩
theorem aC_8 : AR LC 8 0 40 := ⟨by decide, rfl, rfl⟩
theorem aC_9 : AR LC 9 0 40 := ⟨by decide, rfl, rfl⟩
theorem pC_10 : PL LC 10 1 := ⟨by decide, rfl, fun C T N h => by cases h; rfl⟩
theorem pC_11 : PL LC 11 3 := ⟨by decide, rfl, fun C T N h => by cases h; rfl⟩
theorem aC_12 : AR LC 12 0 2560 := ⟨by decide, rfl, rfl⟩
theorem aC_13 : AR LC 13 0 2560 := ⟨by decide, rfl, rfl⟩
theorem aC_14 : AR LC 14 0 2560 := ⟨by decide, rfl, rfl⟩
theorem aC_15 : AR LC 15 0 2560 := ⟨by decide, rfl, rfl⟩
theorem aC_16 : AR LC 16 0 40 := ⟨by decide, rfl, rfl⟩
theorem pC_17 : PL LC 17 3 := ⟨by decide, rfl, fun C T N h => by cases h; rfl⟩
theorem aC_18 : AR LC 18 0 1 := ⟨by decide, rfl, rfl⟩
theorem aC_19 : AR LC 19 0 1 := ⟨by decide, rfl, rfl⟩
theorem aC_20 : AR LC 20 0 1 := ⟨by decide, rfl, rfl⟩
theorem aC_21 : AR LC 21 0 1 := ⟨by decide, rfl, rfl⟩
theorem pC_22 : PL LC 22 5 := ⟨by decide, rfl, fun C T N h => by cases h; rfl⟩
theorem pC_23 : PL LC 23 3 := ⟨by decide, rfl, fun C T N h => by cases h; rfl⟩
theorem aC_24 : AR LC 24 0 40 := ⟨by decide, rfl, rfl⟩
theorem aC_25 : AR LC 25 0 40 := ⟨by decide, rfl, rfl⟩
theorem aC_26 : AR LC 26 0 40 := ⟨by decide, rfl, rfl⟩
theorem aC_27 : AR LC 27 0 40 := ⟨by decide, rfl, rfl⟩
theorem pC_28 : PL LC 28 3 := ⟨by decide, rfl, fun C T N h => by cases h; rfl⟩
theorem aC_29 : AR LC 29 0 64 := ⟨by decide, rfl, rfl⟩
theorem aC_30 : AR LC 30 0 64 := ⟨by decide, rfl, rfl⟩
theorem aC_31 : AR LC 31 0 64 := ⟨by decide, rfl, rfl⟩
theorem aC_32 : AR LC 32 0 64 := ⟨by decide, rfl, rfl⟩
theorem aC_33 : AR LC 33 0 100 := ⟨by decide, rfl, rfl⟩
theorem aC_34 : AR LC 34 0 40 := ⟨by decide, rfl, rfl⟩
theorem pC_35 : PL LC 35 2 := ⟨by decide, rfl, fun C T N h => by cases h; rfl⟩
theorem aC_36 : AR LC 36 1 40 := ⟨by decide, rfl, rfl⟩
theorem aC_37 : AR LC 37 0 40 := ⟨by decide, rfl, rfl⟩
theorem aC_38 : AR LC 38 0 40 := ⟨by decide, rfl, rfl⟩
theorem aC_39 : AR LC 39 0 40 := ⟨by decide, rfl, rfl⟩
theorem aC_40 : AR LC 40 0 40 := ⟨by decide, rfl, rfl⟩
theorem aC_41 : AR LC 41 2 4 := ⟨by decide, rfl, rfl⟩
theorem pC_42 : PL LC 42 4 := ⟨by decide, rfl, fun C T N h => by cases h; rfl⟩
theorem aC_43 : AR LC 43 0 60 := ⟨by decide, rfl, rfl⟩
theorem pC_44 : PL LC 44 4 := ⟨by decide, rfl, fun C T N h => by cases h; rfl⟩
theorem aC_45 : AR LC 45 0 60 := ⟨by decide, rfl, rfl⟩
theorem pC_46 : PL LC 46 4 := ⟨by decide, rfl, fun C T N h => by cases h; rfl⟩
theorem aC_47 : AR LC 47 0 60 := ⟨by decide, rfl, rfl⟩
theorem pC_48 : PL LC 48 4 := ⟨by decide, rfl, fun C T N h => by cases h; rfl⟩
theorem aC_49 : AR LC 49 0 60 := ⟨by decide, rfl, rfl⟩
def LMk : List Nat := [10, 0, 0, 0, 0, 0, 0, 0, 0, 0, 0, 0, 0, 0, 0, 0, 1, 0, 0, 0, 0]
def LMl : List Nat := [31, 40, 40, 40, 40, 40, 40, 40, 40, 2560, 40, 40, 64, 40, 40, 40, 4, 4, 4, 240, 60]
def LMr : List (List (Option Nat)) := [[none, some 1, none, none, none, none, some 2, some 3, some 4, some 5, some 6, some 7, some 8, some 9, some 10, none, none, none, none, none, some 11, some 12, some 13, some 14, some 15, some 16, some 17, some 18, some 19, some 20], [], [], [], [], [], [], [], [], [], [], [], [], [], [], [], [], [], [], [], []]
def LM : Lay := (21, fun q => LMk.getD q 0, fun q => LMl.getD q 0, fun q k => (LMr.getD q []).getD k none)
theorem pM_0 : PL LM 0 7 := ⟨by decide, rfl, fun C T N h => by cases h; rfl⟩
theorem aM_1 : AR LM 1 0 40 := ⟨by decide, rfl, rfl⟩
theorem aM_2 : AR LM 2 0 40 := ⟨by decide, rfl, rfl⟩
theorem aM_3 : AR LM 3 0 40 := ⟨by decide, rfl, rfl⟩
theorem aM_4 : AR LM 4 0 40 := ⟨by decide, rfl, rfl⟩
theorem aM_5 : AR LM 5 0 40 := ⟨by decide, rfl, rfl⟩
theorem aM_6 : AR LM 6 0 40 := ⟨by decide, rfl, rfl⟩
theorem aM_7 : AR LM 7 0 40 := ⟨by decide, rfl, rfl⟩
theorem aM_8 : AR LM 8 0 40 := ⟨by decide, rfl, rfl⟩
theorem aM_9 : AR LM 9 0 2560 := ⟨by decide, rfl, rfl⟩
theorem aM_10 : AR LM 10 0 40 := ⟨by decide, rfl, rfl⟩
theorem aM_11 : AR LM 11 0 40 := ⟨by decide, rfl, rfl⟩
theorem aM_12 : AR LM 12 0 64 := ⟨by decide, rfl, rfl⟩
theorem aM_13 : AR LM 13 0 40 := ⟨by decide, rfl, rfl⟩
theorem aM_14 : AR LM 14 0 40 := ⟨by decide, rfl, rfl⟩
theorem aM_15 : AR LM 15 0 40 := ⟨by decide, rfl, rfl⟩
theorem aM_16 : AR LM 16 1 4 := ⟨by decide, rfl, rfl⟩
theorem aM_17 : AR LM 17 0 4 := ⟨by decide, rfl, rfl⟩
theorem aM_18 : AR LM 18 0 4 := ⟨by decide, rfl, rfl⟩
theorem aM_19 : AR LM 19 0 240 := ⟨by decide, rfl, rfl⟩
theorem aM_20 : AR LM 20 0 60 := ⟨by decide, rfl, rfl⟩
def shl (q : Nat) : Nat := LC.2.2.1 (q + 1)
theorem sh_q {q : Nat} (h : PL LC q 3) : q = 11 ∨ q = 17 ∨ q = 23 ∨ q = 28 := by
  have h2 : ∀ q, q < 50 → LC.2.1 q = 6 → q = 11 ∨ q = 17 ∨ q = 23 ∨ q = 28 := by decide
  exact h2 q h.1 h.2.1
theorem st_q {q : Nat} (h : PL LC q 4) : q = 42 ∨ q = 44 ∨ q = 46 ∨ q = 48 := by
  have h2 : ∀ q, q < 50 → LC.2.1 q = 7 → q = 42 ∨ q = 44 ∨ q = 46 ∨ q = 48 := by decide
  exact h2 q h.1 h.2.1
theorem sh_r {q k : Nat} (h : PL LC q 3) (hk : k < 4) : LC.2.2.2 q k = some (q + 1 + k) := by
  rcases sh_q h with rfl | rfl | rfl | rfl <;> (match k, hk with | 0, _ => rfl | 1, _ => rfl | 2, _ => rfl | 3, _ => rfl)
theorem sh_a {q k : Nat} (h : PL LC q 3) (hk : k < 4) : AR LC (q + 1 + k) 0 (shl q) := by
  rcases sh_q h with rfl | rfl | rfl | rfl <;> (match k, hk with | 0, _ => exact ⟨by decide, rfl, rfl⟩ | 1, _ => exact ⟨by decide, rfl, rfl⟩ | 2, _ => exact ⟨by decide, rfl, rfl⟩ | 3, _ => exact ⟨by decide, rfl, rfl⟩)
theorem sh_l {q : Nat} (h : PL LC q 3) : IR (shl q) := by
  rcases sh_q h with rfl | rfl | rfl | rfl <;> exact ⟨by decide, by decide⟩
theorem st_r {q : Nat} (h : PL LC q 4) : LC.2.2.2 q 0 = some (q + 1) := by
  rcases st_q h with rfl | rfl | rfl | rfl <;> rfl
theorem st_n {q k : Nat} (h : PL LC q 4) (hk : k = 1 ∨ k = 2) : LC.2.2.2 q k = none := by
  rcases st_q h with rfl | rfl | rfl | rfl <;> rcases hk with rfl | rfl <;> rfl
theorem st_a {q : Nat} (h : PL LC q 4) : AR LC (q + 1) 0 60 := by
  rcases st_q h with rfl | rfl | rfl | rfl <;> exact ⟨by decide, rfl, rfl⟩
def gp {β : Type} (q : Nat) (x : Option β) : Option β := if q = 42 ∨ q = 44 ∨ q = 46 ∨ q = 48 then x else none
theorem gp_e {β : Type} {q : Nat} {x : Option β} {r : β} (h : gp q x = some r) : PL LC q 4 ∧ x = some r := by
  unfold gp at h
  split at h
  · rename_i h1
    refine ⟨?_, h⟩
    rcases h1 with rfl | rfl | rfl | rfl
    · exact pC_42
    · exact pC_44
    · exact pC_46
    · exact pC_48
  · cases h
end
section
theorem dX0_init_0 : decode cX0_init 0 = .ok (.aload_n 0, 1) := by decide +kernel
theorem dX0_init_1 : decode cX0_init 1 = .ok (.invokespecial 3, 3) := by decide +kernel
theorem dX0_init_4 : decode cX0_init 4 = .ok (.aload_n 0, 1) := by decide +kernel
theorem dX0_init_5 : decode cX0_init 5 = .ok (.bipush 40, 2) := by decide +kernel
theorem dX0_init_7 : decode cX0_init 7 = .ok (.newarray .int, 2) := by decide +kernel
theorem dX0_init_9 : decode cX0_init 9 = .ok (.putfield 9, 3) := by decide +kernel
theorem dX0_init_12 : decode cX0_init 12 = .ok (.aload_n 0, 1) := by decide +kernel
theorem dX0_init_13 : decode cX0_init 13 = .ok (.bipush 40, 2) := by decide +kernel
theorem dX0_init_15 : decode cX0_init 15 = .ok (.newarray .int, 2) := by decide +kernel
theorem dX0_init_17 : decode cX0_init 17 = .ok (.putfield 15, 3) := by decide +kernel
theorem dX0_init_20 : decode cX0_init 20 = .ok (.aload_n 0, 1) := by decide +kernel
theorem dX0_init_21 : decode cX0_init 21 = .ok (.bipush 40, 2) := by decide +kernel
theorem dX0_init_23 : decode cX0_init 23 = .ok (.newarray .int, 2) := by decide +kernel
theorem dX0_init_25 : decode cX0_init 25 = .ok (.putfield 18, 3) := by decide +kernel
theorem dX0_init_28 : decode cX0_init 28 = .ok (.aload_n 0, 1) := by decide +kernel
theorem dX0_init_29 : decode cX0_init 29 = .ok (.bipush 40, 2) := by decide +kernel
theorem dX0_init_31 : decode cX0_init 31 = .ok (.newarray .int, 2) := by decide +kernel
theorem dX0_init_33 : decode cX0_init 33 = .ok (.putfield 21, 3) := by decide +kernel
theorem dX0_init_36 : decode cX0_init 36 = .ok (.aload_n 0, 1) := by decide +kernel
theorem dX0_init_37 : decode cX0_init 37 = .ok (.bipush 40, 2) := by decide +kernel
theorem dX0_init_39 : decode cX0_init 39 = .ok (.newarray .int, 2) := by decide +kernel
theorem dX0_init_41 : decode cX0_init 41 = .ok (.putfield 24, 3) := by decide +kernel
theorem dX0_init_44 : decode cX0_init 44 = .ok (.aload_n 0, 1) := by decide +kernel
theorem dX0_init_45 : decode cX0_init 45 = .ok (.bipush 40, 2) := by decide +kernel
theorem dX0_init_47 : decode cX0_init 47 = .ok (.newarray .int, 2) := by decide +kernel
theorem dX0_init_49 : decode cX0_init 49 = .ok (.putfield 27, 3) := by decide +kernel
theorem dX0_init_52 : decode cX0_init 52 = .ok (.aload_n 0, 1) := by decide +kernel
theorem dX0_init_53 : decode cX0_init 53 = .ok (.bipush 40, 2) := by decide +kernel
theorem dX0_init_55 : decode cX0_init 55 = .ok (.newarray .int, 2) := by decide +kernel
theorem dX0_init_57 : decode cX0_init 57 = .ok (.putfield 30, 3) := by decide +kernel
theorem dX0_init_60 : decode cX0_init 60 = .ok (.aload_n 0, 1) := by decide +kernel
theorem dX0_init_61 : decode cX0_init 61 = .ok (.bipush 40, 2) := by decide +kernel
theorem dX0_init_63 : decode cX0_init 63 = .ok (.newarray .int, 2) := by decide +kernel
theorem dX0_init_65 : decode cX0_init 65 = .ok (.putfield 33, 3) := by decide +kernel
theorem dX0_init_68 : decode cX0_init 68 = .ok (.aload_n 0, 1) := by decide +kernel
theorem dX0_init_69 : decode cX0_init 69 = .ok (.iconst (-1), 1) := by decide +kernel
theorem dX0_init_70 : decode cX0_init 70 = .ok (.putfield 36, 3) := by decide +kernel
theorem dX0_init_73 : decode cX0_init 73 = .ok (.aload_n 0, 1) := by decide +kernel
theorem dX0_init_74 : decode cX0_init 74 = .ok (.iconst (-1), 1) := by decide +kernel
theorem dX0_init_75 : decode cX0_init 75 = .ok (.putfield 40, 3) := by decide +kernel
theorem dX0_init_78 : decode cX0_init 78 = .ok (.return_, 1) := by decide +kernel
theorem dX0_append_0 : decode cX0_append 0 = .ok (.aload_n 0, 1) := by decide +kernel
theorem dX0_append_1 : decode cX0_append 1 = .ok (.getfield 43, 3) := by decide +kernel
theorem dX0_append_4 : decode cX0_append 4 = .ok (.ifCond .lt 15, 3) := by decide +kernel
theorem dX0_append_7 : decode cX0_append 7 = .ok (.aload_n 0, 1) := by decide +kernel
theorem dX0_append_8 : decode cX0_append 8 = .ok (.getfield 43, 3) := by decide +kernel
theorem dX0_append_11 : decode cX0_append 11 = .ok (.aload_n 0, 1) := by decide +kernel
theorem dX0_append_12 : decode cX0_append 12 = .ok (.getfield 9, 3) := by decide +kernel
theorem dX0_append_15 : decode cX0_append 15 = .ok (.arraylength, 1) := by decide +kernel
theorem dX0_append_16 : decode cX0_append 16 = .ok (.if_icmp .lt 5, 3) := by decide +kernel
theorem dX0_append_19 : decode cX0_append 19 = .ok (.iconst 0, 1) := by decide +kernel
theorem dX0_append_20 : decode cX0_append 20 = .ok (.ireturn, 1) := by decide +kernel
theorem dX0_append_21 : decode cX0_append 21 = .ok (.aload_n 0, 1) := by decide +kernel
theorem dX0_append_22 : decode cX0_append 22 = .ok (.getfield 9, 3) := by decide +kernel
theorem dX0_append_25 : decode cX0_append 25 = .ok (.aload_n 0, 1) := by decide +kernel
theorem dX0_append_26 : decode cX0_append 26 = .ok (.getfield 43, 3) := by decide +kernel
theorem dX0_append_29 : decode cX0_append 29 = .ok (.iload_n 1, 1) := by decide +kernel
theorem dX0_append_30 : decode cX0_append 30 = .ok (.iastore, 1) := by decide +kernel
theorem dX0_append_31 : decode cX0_append 31 = .ok (.aload_n 0, 1) := by decide +kernel
theorem dX0_append_32 : decode cX0_append 32 = .ok (.dup, 1) := by decide +kernel
theorem dX0_append_33 : decode cX0_append 33 = .ok (.getfield 43, 3) := by decide +kernel
theorem dX0_append_36 : decode cX0_append 36 = .ok (.iconst 1, 1) := by decide +kernel
theorem dX0_append_37 : decode cX0_append 37 = .ok (.iadd, 1) := by decide +kernel
theorem dX0_append_38 : decode cX0_append 38 = .ok (.putfield 43, 3) := by decide +kernel
theorem dX0_append_41 : decode cX0_append 41 = .ok (.iconst 1, 1) := by decide +kernel
theorem dX0_append_42 : decode cX0_append 42 = .ok (.ireturn, 1) := by decide +kernel
theorem dX0_hasPart_0 : decode cX0_hasPart 0 = .ok (.iload_n 1, 1) := by decide +kernel
theorem dX0_hasPart_1 : decode cX0_hasPart 1 = .ok (.ifCond .lt 21, 3) := by decide +kernel
theorem dX0_hasPart_4 : decode cX0_hasPart 4 = .ok (.iload_n 1, 1) := by decide +kernel
theorem dX0_hasPart_5 : decode cX0_hasPart 5 = .ok (.aload_n 0, 1) := by decide +kernel
theorem dX0_hasPart_6 : decode cX0_hasPart 6 = .ok (.getfield 46, 3) := by decide +kernel
theorem dX0_hasPart_9 : decode cX0_hasPart 9 = .ok (.if_icmp .ge 13, 3) := by decide +kernel
theorem dX0_hasPart_12 : decode cX0_hasPart 12 = .ok (.iload_n 1, 1) := by decide +kernel
theorem dX0_hasPart_13 : decode cX0_hasPart 13 = .ok (.bipush 40, 2) := by decide +kernel
theorem dX0_hasPart_15 : decode cX0_hasPart 15 = .ok (.if_icmp .ge 7, 3) := by decide +kernel
theorem dX0_hasPart_18 : decode cX0_hasPart 18 = .ok (.iconst 1, 1) := by decide +kernel
theorem dX0_hasPart_19 : decode cX0_hasPart 19 = .ok (.goto 4, 3) := by decide +kernel
theorem dX0_hasPart_22 : decode cX0_hasPart 22 = .ok (.iconst 0, 1) := by decide +kernel
theorem dX0_hasPart_23 : decode cX0_hasPart 23 = .ok (.ireturn, 1) := by decide +kernel
theorem dX0_parse_0 : decode cX0_parse 0 = .ok (.aload_n 0, 1) := by decide +kernel
theorem dX0_parse_1 : decode cX0_parse 1 = .ok (.iconst 0, 1) := by decide +kernel
theorem dX0_parse_2 : decode cX0_parse 2 = .ok (.putfield 46, 3) := by decide +kernel
theorem dX0_parse_5 : decode cX0_parse 5 = .ok (.aload_n 0, 1) := by decide +kernel
theorem dX0_parse_6 : decode cX0_parse 6 = .ok (.iconst 0, 1) := by decide +kernel
theorem dX0_parse_7 : decode cX0_parse 7 = .ok (.putfield 49, 3) := by decide +kernel
theorem dX0_parse_10 : decode cX0_parse 10 = .ok (.aload_n 0, 1) := by decide +kernel
theorem dX0_parse_11 : decode cX0_parse 11 = .ok (.iconst (-1), 1) := by decide +kernel
theorem dX0_parse_12 : decode cX0_parse 12 = .ok (.putfield 36, 3) := by decide +kernel
theorem dX0_parse_15 : decode cX0_parse 15 = .ok (.aload_n 0, 1) := by decide +kernel
theorem dX0_parse_16 : decode cX0_parse 16 = .ok (.iconst (-1), 1) := by decide +kernel
theorem dX0_parse_17 : decode cX0_parse 17 = .ok (.putfield 40, 3) := by decide +kernel
theorem dX0_parse_20 : decode cX0_parse 20 = .ok (.iconst 0, 1) := by decide +kernel
theorem dX0_parse_21 : decode cX0_parse 21 = .ok (.istore_n 1, 1) := by decide +kernel
theorem dX0_parse_22 : decode cX0_parse 22 = .ok (.iload_n 1, 1) := by decide +kernel
theorem dX0_parse_23 : decode cX0_parse 23 = .ok (.aload_n 0, 1) := by decide +kernel
theorem dX0_parse_24 : decode cX0_parse 24 = .ok (.getfield 43, 3) := by decide +kernel
theorem dX0_parse_27 : decode cX0_parse 27 = .ok (.if_icmp .ge 45, 3) := by decide +kernel
theorem dX0_parse_30 : decode cX0_parse 30 = .ok (.iload_n 1, 1) := by decide +kernel
theorem dX0_parse_31 : decode cX0_parse 31 = .ok (.aload_n 0, 1) := by decide +kernel
theorem dX0_parse_32 : decode cX0_parse 32 = .ok (.getfield 9, 3) := by decide +kernel
theorem dX0_parse_35 : decode cX0_parse 35 = .ok (.arraylength, 1) := by decide +kernel
theorem dX0_parse_36 : decode cX0_parse 36 = .ok (.if_icmp .ge 36, 3) := by decide +kernel
theorem dX0_parse_39 : decode cX0_parse 39 = .ok (.aload_n 0, 1) := by decide +kernel
theorem dX0_parse_40 : decode cX0_parse 40 = .ok (.getfield 36, 3) := by decide +kernel
theorem dX0_parse_43 : decode cX0_parse 43 = .ok (.iconst (-1), 1) := by decide +kernel
theorem dX0_parse_44 : decode cX0_parse 44 = .ok (.if_icmp .ne 28, 3) := by decide +kernel
theorem dX0_parse_47 : decode cX0_parse 47 = .ok (.aload_n 0, 1) := by decide +kernel
theorem dX0_parse_48 : decode cX0_parse 48 = .ok (.iload_n 1, 1) := by decide +kernel
theorem dX0_parse_49 : decode cX0_parse 49 = .ok (.aload_n 0, 1) := by decide +kernel
theorem dX0_parse_50 : decode cX0_parse 50 = .ok (.getfield 9, 3) := by decide +kernel
theorem dX0_parse_53 : decode cX0_parse 53 = .ok (.iload_n 1, 1) := by decide +kernel
theorem dX0_parse_54 : decode cX0_parse 54 = .ok (.iaload, 1) := by decide +kernel
theorem dX0_parse_55 : decode cX0_parse 55 = .ok (.invokevirtual 52, 3) := by decide +kernel
theorem dX0_parse_58 : decode cX0_parse 58 = .ok (.ifCond .ne 8, 3) := by decide +kernel
theorem dX0_parse_61 : decode cX0_parse 61 = .ok (.aload_n 0, 1) := by decide +kernel
theorem dX0_parse_62 : decode cX0_parse 62 = .ok (.iload_n 1, 1) := by decide +kernel
theorem dX0_parse_63 : decode cX0_parse 63 = .ok (.putfield 36, 3) := by decide +kernel
theorem dX0_parse_66 : decode cX0_parse 66 = .ok (.iinc 1 1, 3) := by decide +kernel
theorem dX0_parse_69 : decode cX0_parse 69 = .ok (.goto (-47), 3) := by decide +kernel
theorem dX0_parse_72 : decode cX0_parse 72 = .ok (.aload_n 0, 1) := by decide +kernel
theorem dX0_parse_73 : decode cX0_parse 73 = .ok (.getfield 36, 3) := by decide +kernel
theorem dX0_parse_76 : decode cX0_parse 76 = .ok (.iconst (-1), 1) := by decide +kernel
theorem dX0_parse_77 : decode cX0_parse 77 = .ok (.if_icmp .ne 19, 3) := by decide +kernel
theorem dX0_parse_80 : decode cX0_parse 80 = .ok (.aload_n 0, 1) := by decide +kernel
theorem dX0_parse_81 : decode cX0_parse 81 = .ok (.getfield 40, 3) := by decide +kernel
theorem dX0_parse_84 : decode cX0_parse 84 = .ok (.iconst (-1), 1) := by decide +kernel
theorem dX0_parse_85 : decode cX0_parse 85 = .ok (.if_icmp .eq 11, 3) := by decide +kernel
theorem dX0_parse_88 : decode cX0_parse 88 = .ok (.aload_n 0, 1) := by decide +kernel
theorem dX0_parse_89 : decode cX0_parse 89 = .ok (.aload_n 0, 1) := by decide +kernel
theorem dX0_parse_90 : decode cX0_parse 90 = .ok (.getfield 43, 3) := by decide +kernel
theorem dX0_parse_93 : decode cX0_parse 93 = .ok (.putfield 36, 3) := by decide +kernel
theorem dX0_parse_96 : decode cX0_parse 96 = .ok (.aload_n 0, 1) := by decide +kernel
theorem dX0_parse_97 : decode cX0_parse 97 = .ok (.getfield 36, 3) := by decide +kernel
theorem dX0_parse_100 : decode cX0_parse 100 = .ok (.iconst (-1), 1) := by decide +kernel
theorem dX0_parse_101 : decode cX0_parse 101 = .ok (.if_icmp .eq 13, 3) := by decide +kernel
theorem dX0_parse_104 : decode cX0_parse 104 = .ok (.aload_n 0, 1) := by decide +kernel
theorem dX0_parse_105 : decode cX0_parse 105 = .ok (.iconst 0, 1) := by decide +kernel
theorem dX0_parse_106 : decode cX0_parse 106 = .ok (.putfield 46, 3) := by decide +kernel
theorem dX0_parse_109 : decode cX0_parse 109 = .ok (.aload_n 0, 1) := by decide +kernel
theorem dX0_parse_110 : decode cX0_parse 110 = .ok (.iconst 0, 1) := by decide +kernel
theorem dX0_parse_111 : decode cX0_parse 111 = .ok (.putfield 49, 3) := by decide +kernel
theorem dX0_parse_114 : decode cX0_parse 114 = .ok (.aload_n 0, 1) := by decide +kernel
theorem dX0_parse_115 : decode cX0_parse 115 = .ok (.invokevirtual 56, 3) := by decide +kernel
theorem dX0_parse_118 : decode cX0_parse 118 = .ok (.return_, 1) := by decide +kernel
theorem dX0_goesOn_0 : decode cX0_goesOn 0 = .ok (.aload_n 0, 1) := by decide +kernel
theorem dX0_goesOn_1 : decode cX0_goesOn 1 = .ok (.getfield 46, 3) := by decide +kernel
theorem dX0_goesOn_4 : decode cX0_goesOn 4 = .ok (.ifCond .le 15, 3) := by decide +kernel
theorem dX0_goesOn_7 : decode cX0_goesOn 7 = .ok (.aload_n 0, 1) := by decide +kernel
theorem dX0_goesOn_8 : decode cX0_goesOn 8 = .ok (.getfield 40, 3) := by decide +kernel
theorem dX0_goesOn_11 : decode cX0_goesOn 11 = .ok (.iconst (-1), 1) := by decide +kernel
theorem dX0_goesOn_12 : decode cX0_goesOn 12 = .ok (.if_icmp .ne 7, 3) := by decide +kernel
theorem dX0_goesOn_15 : decode cX0_goesOn 15 = .ok (.iconst 1, 1) := by decide +kernel
theorem dX0_goesOn_16 : decode cX0_goesOn 16 = .ok (.goto 4, 3) := by decide +kernel
theorem dX0_goesOn_19 : decode cX0_goesOn 19 = .ok (.iconst 0, 1) := by decide +kernel
theorem dX0_goesOn_20 : decode cX0_goesOn 20 = .ok (.istore_n 3, 1) := by decide +kernel
theorem dX0_goesOn_21 : decode cX0_goesOn 21 = .ok (.iload_n 3, 1) := by decide +kernel
theorem dX0_goesOn_22 : decode cX0_goesOn 22 = .ok (.ifCond .eq 5, 3) := by decide +kernel
theorem dX0_goesOn_25 : decode cX0_goesOn 25 = .ok (.iconst 0, 1) := by decide +kernel
theorem dX0_goesOn_26 : decode cX0_goesOn 26 = .ok (.ireturn, 1) := by decide +kernel
theorem dX0_goesOn_27 : decode cX0_goesOn 27 = .ok (.aload_n 0, 1) := by decide +kernel
theorem dX0_goesOn_28 : decode cX0_goesOn 28 = .ok (.aload_n 0, 1) := by decide +kernel
theorem dX0_goesOn_29 : decode cX0_goesOn 29 = .ok (.getfield 40, 3) := by decide +kernel
theorem dX0_goesOn_32 : decode cX0_goesOn 32 = .ok (.invokevirtual 59, 3) := by decide +kernel
theorem dX0_goesOn_35 : decode cX0_goesOn 35 = .ok (.ifCond .eq 34, 3) := by decide +kernel
theorem dX0_goesOn_38 : decode cX0_goesOn 38 = .ok (.aload_n 0, 1) := by decide +kernel
theorem dX0_goesOn_39 : decode cX0_goesOn 39 = .ok (.getfield 15, 3) := by decide +kernel
theorem dX0_goesOn_42 : decode cX0_goesOn 42 = .ok (.aload_n 0, 1) := by decide +kernel
theorem dX0_goesOn_43 : decode cX0_goesOn 43 = .ok (.getfield 40, 3) := by decide +kernel
theorem dX0_goesOn_46 : decode cX0_goesOn 46 = .ok (.iaload, 1) := by decide +kernel
theorem dX0_goesOn_47 : decode cX0_goesOn 47 = .ok (.iconst 4, 1) := by decide +kernel
theorem dX0_goesOn_48 : decode cX0_goesOn 48 = .ok (.if_icmp .ne 21, 3) := by decide +kernel
theorem dX0_goesOn_51 : decode cX0_goesOn 51 = .ok (.aload_n 0, 1) := by decide +kernel
theorem dX0_goesOn_52 : decode cX0_goesOn 52 = .ok (.getfield 33, 3) := by decide +kernel
theorem dX0_goesOn_55 : decode cX0_goesOn 55 = .ok (.aload_n 0, 1) := by decide +kernel
theorem dX0_goesOn_56 : decode cX0_goesOn 56 = .ok (.getfield 40, 3) := by decide +kernel
theorem dX0_goesOn_59 : decode cX0_goesOn 59 = .ok (.iaload, 1) := by decide +kernel
theorem dX0_goesOn_60 : decode cX0_goesOn 60 = .ok (.ifCond .ne 9, 3) := by decide +kernel
theorem dX0_goesOn_63 : decode cX0_goesOn 63 = .ok (.aload_n 0, 1) := by decide +kernel
theorem dX0_goesOn_64 : decode cX0_goesOn 64 = .ok (.iload_n 2, 1) := by decide +kernel
theorem dX0_goesOn_65 : decode cX0_goesOn 65 = .ok (.invokevirtual 63, 3) := by decide +kernel
theorem dX0_goesOn_68 : decode cX0_goesOn 68 = .ok (.ireturn, 1) := by decide +kernel
theorem dX0_goesOn_69 : decode cX0_goesOn 69 = .ok (.iload_n 2, 1) := by decide +kernel
theorem dX0_goesOn_70 : decode cX0_goesOn 70 = .ok (.invokestatic 66, 3) := by decide +kernel
theorem dX0_goesOn_73 : decode cX0_goesOn 73 = .ok (.istore 4, 2) := by decide +kernel
theorem dX0_goesOn_75 : decode cX0_goesOn 75 = .ok (.iload 4, 2) := by decide +kernel
theorem dX0_goesOn_77 : decode cX0_goesOn 77 = .ok (.iconst (-1), 1) := by decide +kernel
theorem dX0_goesOn_78 : decode cX0_goesOn 78 = .ok (.if_icmp .eq 27, 3) := by decide +kernel
theorem dX0_goesOn_81 : decode cX0_goesOn 81 = .ok (.aload_n 0, 1) := by decide +kernel
theorem dX0_goesOn_82 : decode cX0_goesOn 82 = .ok (.getfield 46, 3) := by decide +kernel
theorem dX0_goesOn_85 : decode cX0_goesOn 85 = .ok (.bipush 40, 2) := by decide +kernel
theorem dX0_goesOn_87 : decode cX0_goesOn 87 = .ok (.if_icmp .ge 18, 3) := by decide +kernel
theorem dX0_goesOn_90 : decode cX0_goesOn 90 = .ok (.iload 4, 2) := by decide +kernel
theorem dX0_goesOn_92 : decode cX0_goesOn 92 = .ok (.iconst 3, 1) := by decide +kernel
theorem dX0_goesOn_93 : decode cX0_goesOn 93 = .ok (.if_icmp .ne 14, 3) := by decide +kernel
theorem dX0_goesOn_96 : decode cX0_goesOn 96 = .ok (.aload_n 0, 1) := by decide +kernel
theorem dX0_goesOn_97 : decode cX0_goesOn 97 = .ok (.getfield 49, 3) := by decide +kernel
theorem dX0_goesOn_100 : decode cX0_goesOn 100 = .ok (.bipush 6, 2) := by decide +kernel
theorem dX0_goesOn_102 : decode cX0_goesOn 102 = .ok (.if_icmp .ne 5, 3) := by decide +kernel
theorem dX0_goesOn_105 : decode cX0_goesOn 105 = .ok (.iconst 0, 1) := by decide +kernel
theorem dX0_goesOn_106 : decode cX0_goesOn 106 = .ok (.ireturn, 1) := by decide +kernel
theorem dX0_goesOn_107 : decode cX0_goesOn 107 = .ok (.aload_n 0, 1) := by decide +kernel
theorem dX0_goesOn_108 : decode cX0_goesOn 108 = .ok (.iload_n 1, 1) := by decide +kernel
theorem dX0_goesOn_109 : decode cX0_goesOn 109 = .ok (.iload 4, 2) := by decide +kernel
theorem dX0_goesOn_111 : decode cX0_goesOn 111 = .ok (.iload_n 2, 1) := by decide +kernel
theorem dX0_goesOn_112 : decode cX0_goesOn 112 = .ok (.invokevirtual 70, 3) := by decide +kernel
theorem dX0_goesOn_115 : decode cX0_goesOn 115 = .ok (.iconst 1, 1) := by decide +kernel
theorem dX0_goesOn_116 : decode cX0_goesOn 116 = .ok (.ireturn, 1) := by decide +kernel
theorem dX0_takesFigure_0 : decode cX0_takesFigure 0 = .ok (.iload_n 1, 1) := by decide +kernel
theorem dX0_takesFigure_1 : decode cX0_takesFigure 1 = .ok (.bipush 49, 2) := by decide +kernel
theorem dX0_takesFigure_3 : decode cX0_takesFigure 3 = .ok (.if_icmp .lt 9, 3) := by decide +kernel
theorem dX0_takesFigure_6 : decode cX0_takesFigure 6 = .ok (.iload_n 1, 1) := by decide +kernel
theorem dX0_takesFigure_7 : decode cX0_takesFigure 7 = .ok (.bipush 57, 2) := by decide +kernel
theorem dX0_takesFigure_9 : decode cX0_takesFigure 9 = .ok (.if_icmp .le 5, 3) := by decide +kernel
theorem dX0_takesFigure_12 : decode cX0_takesFigure 12 = .ok (.iconst 0, 1) := by decide +kernel
theorem dX0_takesFigure_13 : decode cX0_takesFigure 13 = .ok (.ireturn, 1) := by decide +kernel
theorem dX0_takesFigure_14 : decode cX0_takesFigure 14 = .ok (.aload_n 0, 1) := by decide +kernel
theorem dX0_takesFigure_15 : decode cX0_takesFigure 15 = .ok (.getfield 33, 3) := by decide +kernel
theorem dX0_takesFigure_18 : decode cX0_takesFigure 18 = .ok (.aload_n 0, 1) := by decide +kernel
theorem dX0_takesFigure_19 : decode cX0_takesFigure 19 = .ok (.getfield 40, 3) := by decide +kernel
theorem dX0_takesFigure_22 : decode cX0_takesFigure 22 = .ok (.iload_n 1, 1) := by decide +kernel
theorem dX0_takesFigure_23 : decode cX0_takesFigure 23 = .ok (.bipush 48, 2) := by decide +kernel
theorem dX0_takesFigure_25 : decode cX0_takesFigure 25 = .ok (.isub, 1) := by decide +kernel
theorem dX0_takesFigure_26 : decode cX0_takesFigure 26 = .ok (.iastore, 1) := by decide +kernel
theorem dX0_takesFigure_27 : decode cX0_takesFigure 27 = .ok (.iconst 1, 1) := by decide +kernel
theorem dX0_takesFigure_28 : decode cX0_takesFigure 28 = .ok (.ireturn, 1) := by decide +kernel
theorem dX0_kindOf_0 : decode cX0_kindOf 0 = .ok (.iload_n 0, 1) := by decide +kernel
theorem dX0_kindOf_1 : decode cX0_kindOf 1 = .ok (.lookupswitch 61 #[(67, 55), (70, 59), (72, 51), (78, 57), (86, 53)], 51) := by decide +kernel
theorem dX0_kindOf_52 : decode cX0_kindOf 52 = .ok (.iconst 1, 1) := by decide +kernel
theorem dX0_kindOf_53 : decode cX0_kindOf 53 = .ok (.ireturn, 1) := by decide +kernel
theorem dX0_kindOf_54 : decode cX0_kindOf 54 = .ok (.iconst 2, 1) := by decide +kernel
theorem dX0_kindOf_55 : decode cX0_kindOf 55 = .ok (.ireturn, 1) := by decide +kernel
theorem dX0_kindOf_56 : decode cX0_kindOf 56 = .ok (.iconst 3, 1) := by decide +kernel
theorem dX0_kindOf_57 : decode cX0_kindOf 57 = .ok (.ireturn, 1) := by decide +kernel
theorem dX0_kindOf_58 : decode cX0_kindOf 58 = .ok (.iconst 4, 1) := by decide +kernel
theorem dX0_kindOf_59 : decode cX0_kindOf 59 = .ok (.ireturn, 1) := by decide +kernel
theorem dX0_kindOf_60 : decode cX0_kindOf 60 = .ok (.iconst 5, 1) := by decide +kernel
theorem dX0_kindOf_61 : decode cX0_kindOf 61 = .ok (.ireturn, 1) := by decide +kernel
theorem dX0_kindOf_62 : decode cX0_kindOf 62 = .ok (.iload_n 0, 1) := by decide +kernel
theorem dX0_kindOf_63 : decode cX0_kindOf 63 = .ok (.bipush 97, 2) := by decide +kernel
theorem dX0_kindOf_65 : decode cX0_kindOf 65 = .ok (.if_icmp .lt 13, 3) := by decide +kernel
theorem dX0_kindOf_68 : decode cX0_kindOf 68 = .ok (.iload_n 0, 1) := by decide +kernel
theorem dX0_kindOf_69 : decode cX0_kindOf 69 = .ok (.bipush 105, 2) := by decide +kernel
theorem dX0_kindOf_71 : decode cX0_kindOf 71 = .ok (.if_icmp .gt 7, 3) := by decide +kernel
theorem dX0_kindOf_74 : decode cX0_kindOf 74 = .ok (.iconst 0, 1) := by decide +kernel
theorem dX0_kindOf_75 : decode cX0_kindOf 75 = .ok (.goto 4, 3) := by decide +kernel
theorem dX0_kindOf_78 : decode cX0_kindOf 78 = .ok (.iconst (-1), 1) := by decide +kernel
theorem dX0_kindOf_79 : decode cX0_kindOf 79 = .ok (.ireturn, 1) := by decide +kernel
theorem dX0_begin_0 : decode cX0_begin 0 = .ok (.aload_n 0, 1) := by decide +kernel
theorem dX0_begin_1 : decode cX0_begin 1 = .ok (.getfield 46, 3) := by decide +kernel
theorem dX0_begin_4 : decode cX0_begin 4 = .ok (.istore 4, 2) := by decide +kernel
theorem dX0_begin_6 : decode cX0_begin 6 = .ok (.aload_n 0, 1) := by decide +kernel
theorem dX0_begin_7 : decode cX0_begin 7 = .ok (.dup, 1) := by decide +kernel
theorem dX0_begin_8 : decode cX0_begin 8 = .ok (.getfield 46, 3) := by decide +kernel
theorem dX0_begin_11 : decode cX0_begin 11 = .ok (.iconst 1, 1) := by decide +kernel
theorem dX0_begin_12 : decode cX0_begin 12 = .ok (.iadd, 1) := by decide +kernel
theorem dX0_begin_13 : decode cX0_begin 13 = .ok (.putfield 46, 3) := by decide +kernel
theorem dX0_begin_16 : decode cX0_begin 16 = .ok (.aload_n 0, 1) := by decide +kernel
theorem dX0_begin_17 : decode cX0_begin 17 = .ok (.getfield 15, 3) := by decide +kernel
theorem dX0_begin_20 : decode cX0_begin 20 = .ok (.iload 4, 2) := by decide +kernel
theorem dX0_begin_22 : decode cX0_begin 22 = .ok (.iload_n 2, 1) := by decide +kernel
theorem dX0_begin_23 : decode cX0_begin 23 = .ok (.iastore, 1) := by decide +kernel
theorem dX0_begin_24 : decode cX0_begin 24 = .ok (.aload_n 0, 1) := by decide +kernel
theorem dX0_begin_25 : decode cX0_begin 25 = .ok (.getfield 18, 3) := by decide +kernel
theorem dX0_begin_28 : decode cX0_begin 28 = .ok (.iload 4, 2) := by decide +kernel
theorem dX0_begin_30 : decode cX0_begin 30 = .ok (.iload_n 1, 1) := by decide +kernel
theorem dX0_begin_31 : decode cX0_begin 31 = .ok (.iastore, 1) := by decide +kernel
theorem dX0_begin_32 : decode cX0_begin 32 = .ok (.aload_n 0, 1) := by decide +kernel
theorem dX0_begin_33 : decode cX0_begin 33 = .ok (.getfield 24, 3) := by decide +kernel
theorem dX0_begin_36 : decode cX0_begin 36 = .ok (.iload 4, 2) := by decide +kernel
theorem dX0_begin_38 : decode cX0_begin 38 = .ok (.aload_n 0, 1) := by decide +kernel
theorem dX0_begin_39 : decode cX0_begin 39 = .ok (.getfield 40, 3) := by decide +kernel
theorem dX0_begin_42 : decode cX0_begin 42 = .ok (.iastore, 1) := by decide +kernel
theorem dX0_begin_43 : decode cX0_begin 43 = .ok (.aload_n 0, 1) := by decide +kernel
theorem dX0_begin_44 : decode cX0_begin 44 = .ok (.getfield 27, 3) := by decide +kernel
theorem dX0_begin_47 : decode cX0_begin 47 = .ok (.iload 4, 2) := by decide +kernel
theorem dX0_begin_49 : decode cX0_begin 49 = .ok (.iconst (-1), 1) := by decide +kernel
theorem dX0_begin_50 : decode cX0_begin 50 = .ok (.iastore, 1) := by decide +kernel
theorem dX0_begin_51 : decode cX0_begin 51 = .ok (.aload_n 0, 1) := by decide +kernel
theorem dX0_begin_52 : decode cX0_begin 52 = .ok (.getfield 30, 3) := by decide +kernel
theorem dX0_begin_55 : decode cX0_begin 55 = .ok (.iload 4, 2) := by decide +kernel
theorem dX0_begin_57 : decode cX0_begin 57 = .ok (.iconst (-1), 1) := by decide +kernel
theorem dX0_begin_58 : decode cX0_begin 58 = .ok (.iastore, 1) := by decide +kernel
theorem dX0_begin_59 : decode cX0_begin 59 = .ok (.aload_n 0, 1) := by decide +kernel
theorem dX0_begin_60 : decode cX0_begin 60 = .ok (.getfield 33, 3) := by decide +kernel
theorem dX0_begin_63 : decode cX0_begin 63 = .ok (.iload 4, 2) := by decide +kernel
theorem dX0_begin_65 : decode cX0_begin 65 = .ok (.iconst 0, 1) := by decide +kernel
theorem dX0_begin_66 : decode cX0_begin 66 = .ok (.iastore, 1) := by decide +kernel
theorem dX0_begin_67 : decode cX0_begin 67 = .ok (.iload_n 2, 1) := by decide +kernel
theorem dX0_begin_68 : decode cX0_begin 68 = .ok (.ifCond .ne 16, 3) := by decide +kernel
theorem dX0_begin_71 : decode cX0_begin 71 = .ok (.aload_n 0, 1) := by decide +kernel
theorem dX0_begin_72 : decode cX0_begin 72 = .ok (.getfield 33, 3) := by decide +kernel
theorem dX0_begin_75 : decode cX0_begin 75 = .ok (.iload 4, 2) := by decide +kernel
theorem dX0_begin_77 : decode cX0_begin 77 = .ok (.iload_n 3, 1) := by decide +kernel
theorem dX0_begin_78 : decode cX0_begin 78 = .ok (.bipush 97, 2) := by decide +kernel
theorem dX0_begin_80 : decode cX0_begin 80 = .ok (.isub, 1) := by decide +kernel
theorem dX0_begin_81 : decode cX0_begin 81 = .ok (.iconst 1, 1) := by decide +kernel
theorem dX0_begin_82 : decode cX0_begin 82 = .ok (.iadd, 1) := by decide +kernel
theorem dX0_begin_83 : decode cX0_begin 83 = .ok (.iastore, 1) := by decide +kernel
theorem dX0_begin_84 : decode cX0_begin 84 = .ok (.iload_n 2, 1) := by decide +kernel
theorem dX0_begin_85 : decode cX0_begin 85 = .ok (.iconst 3, 1) := by decide +kernel
theorem dX0_begin_86 : decode cX0_begin 86 = .ok (.if_icmp .ne 24, 3) := by decide +kernel
theorem dX0_begin_89 : decode cX0_begin 89 = .ok (.aload_n 0, 1) := by decide +kernel
theorem dX0_begin_90 : decode cX0_begin 90 = .ok (.getfield 33, 3) := by decide +kernel
theorem dX0_begin_93 : decode cX0_begin 93 = .ok (.iload 4, 2) := by decide +kernel
theorem dX0_begin_95 : decode cX0_begin 95 = .ok (.aload_n 0, 1) := by decide +kernel
theorem dX0_begin_96 : decode cX0_begin 96 = .ok (.getfield 49, 3) := by decide +kernel
theorem dX0_begin_99 : decode cX0_begin 99 = .ok (.iastore, 1) := by decide +kernel
theorem dX0_begin_100 : decode cX0_begin 100 = .ok (.aload_n 0, 1) := by decide +kernel
theorem dX0_begin_101 : decode cX0_begin 101 = .ok (.dup, 1) := by decide +kernel
theorem dX0_begin_102 : decode cX0_begin 102 = .ok (.getfield 49, 3) := by decide +kernel
theorem dX0_begin_105 : decode cX0_begin 105 = .ok (.iconst 1, 1) := by decide +kernel
theorem dX0_begin_106 : decode cX0_begin 106 = .ok (.iadd, 1) := by decide +kernel
theorem dX0_begin_107 : decode cX0_begin 107 = .ok (.putfield 49, 3) := by decide +kernel
theorem dX0_begin_110 : decode cX0_begin 110 = .ok (.aload_n 0, 1) := by decide +kernel
theorem dX0_begin_111 : decode cX0_begin 111 = .ok (.iload 4, 2) := by decide +kernel
theorem dX0_begin_113 : decode cX0_begin 113 = .ok (.invokevirtual 74, 3) := by decide +kernel
theorem dX0_begin_116 : decode cX0_begin 116 = .ok (.iload_n 2, 1) := by decide +kernel
theorem dX0_begin_117 : decode cX0_begin 117 = .ok (.ifCond .eq 12, 3) := by decide +kernel
theorem dX0_begin_120 : decode cX0_begin 120 = .ok (.aload_n 0, 1) := by decide +kernel
theorem dX0_begin_121 : decode cX0_begin 121 = .ok (.iload 4, 2) := by decide +kernel
theorem dX0_begin_123 : decode cX0_begin 123 = .ok (.putfield 40, 3) := by decide +kernel
theorem dX0_begin_126 : decode cX0_begin 126 = .ok (.goto 7, 3) := by decide +kernel
theorem dX0_begin_129 : decode cX0_begin 129 = .ok (.aload_n 0, 1) := by decide +kernel
theorem dX0_begin_130 : decode cX0_begin 130 = .ok (.invokevirtual 78, 3) := by decide +kernel
theorem dX0_begin_133 : decode cX0_begin 133 = .ok (.return_, 1) := by decide +kernel
theorem dX0_hangBelowOpen_0 : decode cX0_hangBelowOpen 0 = .ok (.aload_n 0, 1) := by decide +kernel
theorem dX0_hangBelowOpen_1 : decode cX0_hangBelowOpen 1 = .ok (.aload_n 0, 1) := by decide +kernel
theorem dX0_hangBelowOpen_2 : decode cX0_hangBelowOpen 2 = .ok (.getfield 40, 3) := by decide +kernel
theorem dX0_hangBelowOpen_5 : decode cX0_hangBelowOpen 5 = .ok (.invokevirtual 59, 3) := by decide +kernel
theorem dX0_hangBelowOpen_8 : decode cX0_hangBelowOpen 8 = .ok (.ifCond .ne 4, 3) := by decide +kernel
theorem dX0_hangBelowOpen_11 : decode cX0_hangBelowOpen 11 = .ok (.return_, 1) := by decide +kernel
theorem dX0_hangBelowOpen_12 : decode cX0_hangBelowOpen 12 = .ok (.aload_n 0, 1) := by decide +kernel
theorem dX0_hangBelowOpen_13 : decode cX0_hangBelowOpen 13 = .ok (.getfield 27, 3) := by decide +kernel
theorem dX0_hangBelowOpen_16 : decode cX0_hangBelowOpen 16 = .ok (.aload_n 0, 1) := by decide +kernel
theorem dX0_hangBelowOpen_17 : decode cX0_hangBelowOpen 17 = .ok (.getfield 40, 3) := by decide +kernel
theorem dX0_hangBelowOpen_20 : decode cX0_hangBelowOpen 20 = .ok (.iaload, 1) := by decide +kernel
theorem dX0_hangBelowOpen_21 : decode cX0_hangBelowOpen 21 = .ok (.iconst (-1), 1) := by decide +kernel
theorem dX0_hangBelowOpen_22 : decode cX0_hangBelowOpen 22 = .ok (.if_icmp .ne 16, 3) := by decide +kernel
theorem dX0_hangBelowOpen_25 : decode cX0_hangBelowOpen 25 = .ok (.aload_n 0, 1) := by decide +kernel
theorem dX0_hangBelowOpen_26 : decode cX0_hangBelowOpen 26 = .ok (.getfield 27, 3) := by decide +kernel
theorem dX0_hangBelowOpen_29 : decode cX0_hangBelowOpen 29 = .ok (.aload_n 0, 1) := by decide +kernel
theorem dX0_hangBelowOpen_30 : decode cX0_hangBelowOpen 30 = .ok (.getfield 40, 3) := by decide +kernel
theorem dX0_hangBelowOpen_33 : decode cX0_hangBelowOpen 33 = .ok (.iload_n 1, 1) := by decide +kernel
theorem dX0_hangBelowOpen_34 : decode cX0_hangBelowOpen 34 = .ok (.iastore, 1) := by decide +kernel
theorem dX0_hangBelowOpen_35 : decode cX0_hangBelowOpen 35 = .ok (.goto 13, 3) := by decide +kernel
theorem dX0_hangBelowOpen_38 : decode cX0_hangBelowOpen 38 = .ok (.aload_n 0, 1) := by decide +kernel
theorem dX0_hangBelowOpen_39 : decode cX0_hangBelowOpen 39 = .ok (.getfield 30, 3) := by decide +kernel
theorem dX0_hangBelowOpen_42 : decode cX0_hangBelowOpen 42 = .ok (.aload_n 0, 1) := by decide +kernel
theorem dX0_hangBelowOpen_43 : decode cX0_hangBelowOpen 43 = .ok (.getfield 40, 3) := by decide +kernel
theorem dX0_hangBelowOpen_46 : decode cX0_hangBelowOpen 46 = .ok (.iload_n 1, 1) := by decide +kernel
theorem dX0_hangBelowOpen_47 : decode cX0_hangBelowOpen 47 = .ok (.iastore, 1) := by decide +kernel
theorem dX0_hangBelowOpen_48 : decode cX0_hangBelowOpen 48 = .ok (.return_, 1) := by decide +kernel
theorem dX0_closeFull_0 : decode cX0_closeFull 0 = .ok (.iconst 0, 1) := by decide +kernel
theorem dX0_closeFull_1 : decode cX0_closeFull 1 = .ok (.istore_n 1, 1) := by decide +kernel
theorem dX0_closeFull_2 : decode cX0_closeFull 2 = .ok (.iload_n 1, 1) := by decide +kernel
theorem dX0_closeFull_3 : decode cX0_closeFull 3 = .ok (.bipush 40, 2) := by decide +kernel
theorem dX0_closeFull_5 : decode cX0_closeFull 5 = .ok (.if_icmp .ge 72, 3) := by decide +kernel
theorem dX0_closeFull_8 : decode cX0_closeFull 8 = .ok (.aload_n 0, 1) := by decide +kernel
theorem dX0_closeFull_9 : decode cX0_closeFull 9 = .ok (.aload_n 0, 1) := by decide +kernel
theorem dX0_closeFull_10 : decode cX0_closeFull 10 = .ok (.getfield 40, 3) := by decide +kernel
theorem dX0_closeFull_13 : decode cX0_closeFull 13 = .ok (.invokevirtual 59, 3) := by decide +kernel
theorem dX0_closeFull_16 : decode cX0_closeFull 16 = .ok (.ifCond .eq 61, 3) := by decide +kernel
theorem dX0_closeFull_19 : decode cX0_closeFull 19 = .ok (.aload_n 0, 1) := by decide +kernel
theorem dX0_closeFull_20 : decode cX0_closeFull 20 = .ok (.aload_n 0, 1) := by decide +kernel
theorem dX0_closeFull_21 : decode cX0_closeFull 21 = .ok (.getfield 40, 3) := by decide +kernel
theorem dX0_closeFull_24 : decode cX0_closeFull 24 = .ok (.invokevirtual 81, 3) := by decide +kernel
theorem dX0_closeFull_27 : decode cX0_closeFull 27 = .ok (.ifCond .eq 15, 3) := by decide +kernel
theorem dX0_closeFull_30 : decode cX0_closeFull 30 = .ok (.aload_n 0, 1) := by decide +kernel
theorem dX0_closeFull_31 : decode cX0_closeFull 31 = .ok (.getfield 30, 3) := by decide +kernel
theorem dX0_closeFull_34 : decode cX0_closeFull 34 = .ok (.aload_n 0, 1) := by decide +kernel
theorem dX0_closeFull_35 : decode cX0_closeFull 35 = .ok (.getfield 40, 3) := by decide +kernel
theorem dX0_closeFull_38 : decode cX0_closeFull 38 = .ok (.iaload, 1) := by decide +kernel
theorem dX0_closeFull_39 : decode cX0_closeFull 39 = .ok (.goto 12, 3) := by decide +kernel
theorem dX0_closeFull_42 : decode cX0_closeFull 42 = .ok (.aload_n 0, 1) := by decide +kernel
theorem dX0_closeFull_43 : decode cX0_closeFull 43 = .ok (.getfield 27, 3) := by decide +kernel
theorem dX0_closeFull_46 : decode cX0_closeFull 46 = .ok (.aload_n 0, 1) := by decide +kernel
theorem dX0_closeFull_47 : decode cX0_closeFull 47 = .ok (.getfield 40, 3) := by decide +kernel
theorem dX0_closeFull_50 : decode cX0_closeFull 50 = .ok (.iaload, 1) := by decide +kernel
theorem dX0_closeFull_51 : decode cX0_closeFull 51 = .ok (.istore_n 2, 1) := by decide +kernel
theorem dX0_closeFull_52 : decode cX0_closeFull 52 = .ok (.iload_n 2, 1) := by decide +kernel
theorem dX0_closeFull_53 : decode cX0_closeFull 53 = .ok (.iconst (-1), 1) := by decide +kernel
theorem dX0_closeFull_54 : decode cX0_closeFull 54 = .ok (.if_icmp .ne 4, 3) := by decide +kernel
theorem dX0_closeFull_57 : decode cX0_closeFull 57 = .ok (.return_, 1) := by decide +kernel
theorem dX0_closeFull_58 : decode cX0_closeFull 58 = .ok (.aload_n 0, 1) := by decide +kernel
theorem dX0_closeFull_59 : decode cX0_closeFull 59 = .ok (.aload_n 0, 1) := by decide +kernel
theorem dX0_closeFull_60 : decode cX0_closeFull 60 = .ok (.getfield 24, 3) := by decide +kernel
theorem dX0_closeFull_63 : decode cX0_closeFull 63 = .ok (.aload_n 0, 1) := by decide +kernel
theorem dX0_closeFull_64 : decode cX0_closeFull 64 = .ok (.getfield 40, 3) := by decide +kernel
theorem dX0_closeFull_67 : decode cX0_closeFull 67 = .ok (.iaload, 1) := by decide +kernel
theorem dX0_closeFull_68 : decode cX0_closeFull 68 = .ok (.putfield 40, 3) := by decide +kernel
theorem dX0_closeFull_71 : decode cX0_closeFull 71 = .ok (.iinc 1 1, 3) := by decide +kernel
theorem dX0_closeFull_74 : decode cX0_closeFull 74 = .ok (.goto (-72), 3) := by decide +kernel
theorem dX0_closeFull_77 : decode cX0_closeFull 77 = .ok (.return_, 1) := by decide +kernel
theorem dX0_hasTwo_0 : decode cX0_hasTwo 0 = .ok (.aload_n 0, 1) := by decide +kernel
theorem dX0_hasTwo_1 : decode cX0_hasTwo 1 = .ok (.getfield 15, 3) := by decide +kernel
theorem dX0_hasTwo_4 : decode cX0_hasTwo 4 = .ok (.iload_n 1, 1) := by decide +kernel
theorem dX0_hasTwo_5 : decode cX0_hasTwo 5 = .ok (.iaload, 1) := by decide +kernel
theorem dX0_hasTwo_6 : decode cX0_hasTwo 6 = .ok (.iconst 1, 1) := by decide +kernel
theorem dX0_hasTwo_7 : decode cX0_hasTwo 7 = .ok (.if_icmp .eq 23, 3) := by decide +kernel
theorem dX0_hasTwo_10 : decode cX0_hasTwo 10 = .ok (.aload_n 0, 1) := by decide +kernel
theorem dX0_hasTwo_11 : decode cX0_hasTwo 11 = .ok (.getfield 15, 3) := by decide +kernel
theorem dX0_hasTwo_14 : decode cX0_hasTwo 14 = .ok (.iload_n 1, 1) := by decide +kernel
theorem dX0_hasTwo_15 : decode cX0_hasTwo 15 = .ok (.iaload, 1) := by decide +kernel
theorem dX0_hasTwo_16 : decode cX0_hasTwo 16 = .ok (.iconst 2, 1) := by decide +kernel
theorem dX0_hasTwo_17 : decode cX0_hasTwo 17 = .ok (.if_icmp .eq 13, 3) := by decide +kernel
theorem dX0_hasTwo_20 : decode cX0_hasTwo 20 = .ok (.aload_n 0, 1) := by decide +kernel
theorem dX0_hasTwo_21 : decode cX0_hasTwo 21 = .ok (.getfield 15, 3) := by decide +kernel
theorem dX0_hasTwo_24 : decode cX0_hasTwo 24 = .ok (.iload_n 1, 1) := by decide +kernel
theorem dX0_hasTwo_25 : decode cX0_hasTwo 25 = .ok (.iaload, 1) := by decide +kernel
theorem dX0_hasTwo_26 : decode cX0_hasTwo 26 = .ok (.iconst 3, 1) := by decide +kernel
theorem dX0_hasTwo_27 : decode cX0_hasTwo 27 = .ok (.if_icmp .ne 7, 3) := by decide +kernel
theorem dX0_hasTwo_30 : decode cX0_hasTwo 30 = .ok (.iconst 1, 1) := by decide +kernel
theorem dX0_hasTwo_31 : decode cX0_hasTwo 31 = .ok (.goto 4, 3) := by decide +kernel
theorem dX0_hasTwo_34 : decode cX0_hasTwo 34 = .ok (.iconst 0, 1) := by decide +kernel
theorem dX0_hasTwo_35 : decode cX0_hasTwo 35 = .ok (.ireturn, 1) := by decide +kernel
theorem dX0_measure_0 : decode cX0_measure 0 = .ok (.aload_n 0, 1) := by decide +kernel
theorem dX0_measure_1 : decode cX0_measure 1 = .ok (.getfield 46, 3) := by decide +kernel
theorem dX0_measure_4 : decode cX0_measure 4 = .ok (.iconst 1, 1) := by decide +kernel
theorem dX0_measure_5 : decode cX0_measure 5 = .ok (.isub, 1) := by decide +kernel
theorem dX0_measure_6 : decode cX0_measure 6 = .ok (.istore_n 1, 1) := by decide +kernel
theorem dX0_measure_7 : decode cX0_measure 7 = .ok (.iload_n 1, 1) := by decide +kernel
theorem dX0_measure_8 : decode cX0_measure 8 = .ok (.ifCond .lt 54, 3) := by decide +kernel
theorem dX0_measure_11 : decode cX0_measure 11 = .ok (.aload_n 0, 1) := by decide +kernel
theorem dX0_measure_12 : decode cX0_measure 12 = .ok (.getfield 15, 3) := by decide +kernel
theorem dX0_measure_15 : decode cX0_measure 15 = .ok (.iload_n 1, 1) := by decide +kernel
theorem dX0_measure_16 : decode cX0_measure 16 = .ok (.iaload, 1) := by decide +kernel
theorem dX0_measure_17 : decode cX0_measure 17 = .ok (.iconst 4, 1) := by decide +kernel
theorem dX0_measure_18 : decode cX0_measure 18 = .ok (.if_icmp .ne 7, 3) := by decide +kernel
theorem dX0_measure_21 : decode cX0_measure 21 = .ok (.iconst 2, 1) := by decide +kernel
theorem dX0_measure_22 : decode cX0_measure 22 = .ok (.goto 4, 3) := by decide +kernel
theorem dX0_measure_25 : decode cX0_measure 25 = .ok (.iconst 1, 1) := by decide +kernel
theorem dX0_measure_26 : decode cX0_measure 26 = .ok (.istore_n 2, 1) := by decide +kernel
theorem dX0_measure_27 : decode cX0_measure 27 = .ok (.aload_n 0, 1) := by decide +kernel
theorem dX0_measure_28 : decode cX0_measure 28 = .ok (.getfield 21, 3) := by decide +kernel
theorem dX0_measure_31 : decode cX0_measure 31 = .ok (.iload_n 1, 1) := by decide +kernel
theorem dX0_measure_32 : decode cX0_measure 32 = .ok (.iload_n 2, 1) := by decide +kernel
theorem dX0_measure_33 : decode cX0_measure 33 = .ok (.aload_n 0, 1) := by decide +kernel
theorem dX0_measure_34 : decode cX0_measure 34 = .ok (.aload_n 0, 1) := by decide +kernel
theorem dX0_measure_35 : decode cX0_measure 35 = .ok (.getfield 27, 3) := by decide +kernel
theorem dX0_measure_38 : decode cX0_measure 38 = .ok (.iload_n 1, 1) := by decide +kernel
theorem dX0_measure_39 : decode cX0_measure 39 = .ok (.iaload, 1) := by decide +kernel
theorem dX0_measure_40 : decode cX0_measure 40 = .ok (.invokevirtual 84, 3) := by decide +kernel
theorem dX0_measure_43 : decode cX0_measure 43 = .ok (.iadd, 1) := by decide +kernel
theorem dX0_measure_44 : decode cX0_measure 44 = .ok (.aload_n 0, 1) := by decide +kernel
theorem dX0_measure_45 : decode cX0_measure 45 = .ok (.aload_n 0, 1) := by decide +kernel
theorem dX0_measure_46 : decode cX0_measure 46 = .ok (.getfield 30, 3) := by decide +kernel
theorem dX0_measure_49 : decode cX0_measure 49 = .ok (.iload_n 1, 1) := by decide +kernel
theorem dX0_measure_50 : decode cX0_measure 50 = .ok (.iaload, 1) := by decide +kernel
theorem dX0_measure_51 : decode cX0_measure 51 = .ok (.invokevirtual 84, 3) := by decide +kernel
theorem dX0_measure_54 : decode cX0_measure 54 = .ok (.iadd, 1) := by decide +kernel
theorem dX0_measure_55 : decode cX0_measure 55 = .ok (.iastore, 1) := by decide +kernel
theorem dX0_measure_56 : decode cX0_measure 56 = .ok (.iinc 1 (-1), 3) := by decide +kernel
theorem dX0_measure_59 : decode cX0_measure 59 = .ok (.goto (-52), 3) := by decide +kernel
theorem dX0_measure_62 : decode cX0_measure 62 = .ok (.return_, 1) := by decide +kernel
theorem dX0_sizeBelow_0 : decode cX0_sizeBelow 0 = .ok (.aload_n 0, 1) := by decide +kernel
theorem dX0_sizeBelow_1 : decode cX0_sizeBelow 1 = .ok (.iload_n 1, 1) := by decide +kernel
theorem dX0_sizeBelow_2 : decode cX0_sizeBelow 2 = .ok (.invokevirtual 59, 3) := by decide +kernel
theorem dX0_sizeBelow_5 : decode cX0_sizeBelow 5 = .ok (.ifCond .eq 12, 3) := by decide +kernel
theorem dX0_sizeBelow_8 : decode cX0_sizeBelow 8 = .ok (.aload_n 0, 1) := by decide +kernel
theorem dX0_sizeBelow_9 : decode cX0_sizeBelow 9 = .ok (.getfield 21, 3) := by decide +kernel
theorem dX0_sizeBelow_12 : decode cX0_sizeBelow 12 = .ok (.iload_n 1, 1) := by decide +kernel
theorem dX0_sizeBelow_13 : decode cX0_sizeBelow 13 = .ok (.iaload, 1) := by decide +kernel
theorem dX0_sizeBelow_14 : decode cX0_sizeBelow 14 = .ok (.goto 4, 3) := by decide +kernel
theorem dX0_sizeBelow_17 : decode cX0_sizeBelow 17 = .ok (.iconst 0, 1) := by decide +kernel
theorem dX0_sizeBelow_18 : decode cX0_sizeBelow 18 = .ok (.ireturn, 1) := by decide +kernel
end
section
theorem dX1_init_0 : decode cX1_init 0 = .ok (.aload_n 0, 1) := by decide +kernel
theorem dX1_init_1 : decode cX1_init 1 = .ok (.invokespecial 3, 3) := by decide +kernel
theorem dX1_init_4 : decode cX1_init 4 = .ok (.aload_n 0, 1) := by decide +kernel
theorem dX1_init_5 : decode cX1_init 5 = .ok (.new 9, 3) := by decide +kernel
theorem dX1_init_8 : decode cX1_init 8 = .ok (.dup, 1) := by decide +kernel
theorem dX1_init_9 : decode cX1_init 9 = .ok (.sipush 2560, 3) := by decide +kernel
theorem dX1_init_12 : decode cX1_init 12 = .ok (.invokespecial 11, 3) := by decide +kernel
theorem dX1_init_15 : decode cX1_init 15 = .ok (.putfield 14, 3) := by decide +kernel
theorem dX1_init_18 : decode cX1_init 18 = .ok (.aload_n 0, 1) := by decide +kernel
theorem dX1_init_19 : decode cX1_init 19 = .ok (.bipush 40, 2) := by decide +kernel
theorem dX1_init_21 : decode cX1_init 21 = .ok (.newarray .int, 2) := by decide +kernel
theorem dX1_init_23 : decode cX1_init 23 = .ok (.putfield 20, 3) := by decide +kernel
theorem dX1_init_26 : decode cX1_init 26 = .ok (.return_, 1) := by decide +kernel
theorem dX1_sizeOf_0 : decode cX1_sizeOf 0 = .ok (.iload_n 1, 1) := by decide +kernel
theorem dX1_sizeOf_1 : decode cX1_sizeOf 1 = .ok (.ifCond .lt 21, 3) := by decide +kernel
theorem dX1_sizeOf_4 : decode cX1_sizeOf 4 = .ok (.iload_n 1, 1) := by decide +kernel
theorem dX1_sizeOf_5 : decode cX1_sizeOf 5 = .ok (.aload_n 0, 1) := by decide +kernel
theorem dX1_sizeOf_6 : decode cX1_sizeOf 6 = .ok (.getfield 20, 3) := by decide +kernel
theorem dX1_sizeOf_9 : decode cX1_sizeOf 9 = .ok (.arraylength, 1) := by decide +kernel
theorem dX1_sizeOf_10 : decode cX1_sizeOf 10 = .ok (.if_icmp .ge 12, 3) := by decide +kernel
theorem dX1_sizeOf_13 : decode cX1_sizeOf 13 = .ok (.aload_n 0, 1) := by decide +kernel
theorem dX1_sizeOf_14 : decode cX1_sizeOf 14 = .ok (.getfield 20, 3) := by decide +kernel
theorem dX1_sizeOf_17 : decode cX1_sizeOf 17 = .ok (.iload_n 1, 1) := by decide +kernel
theorem dX1_sizeOf_18 : decode cX1_sizeOf 18 = .ok (.iaload, 1) := by decide +kernel
theorem dX1_sizeOf_19 : decode cX1_sizeOf 19 = .ok (.goto 4, 3) := by decide +kernel
theorem dX1_sizeOf_22 : decode cX1_sizeOf 22 = .ok (.iconst 0, 1) := by decide +kernel
theorem dX1_sizeOf_23 : decode cX1_sizeOf 23 = .ok (.ireturn, 1) := by decide +kernel
theorem dX1_make_0 : decode cX1_make 0 = .ok (.aload_n 0, 1) := by decide +kernel
theorem dX1_make_1 : decode cX1_make 1 = .ok (.iconst 0, 1) := by decide +kernel
theorem dX1_make_2 : decode cX1_make 2 = .ok (.putfield 24, 3) := by decide +kernel
theorem dX1_make_5 : decode cX1_make 5 = .ok (.aload_n 0, 1) := by decide +kernel
theorem dX1_make_6 : decode cX1_make 6 = .ok (.iconst 0, 1) := by decide +kernel
theorem dX1_make_7 : decode cX1_make 7 = .ok (.putfield 28, 3) := by decide +kernel
theorem dX1_make_10 : decode cX1_make 10 = .ok (.aload_n 0, 1) := by decide +kernel
theorem dX1_make_11 : decode cX1_make 11 = .ok (.getfield 20, 3) := by decide +kernel
theorem dX1_make_14 : decode cX1_make 14 = .ok (.iconst 0, 1) := by decide +kernel
theorem dX1_make_15 : decode cX1_make 15 = .ok (.iconst 0, 1) := by decide +kernel
theorem dX1_make_16 : decode cX1_make 16 = .ok (.iastore, 1) := by decide +kernel
theorem dX1_make_17 : decode cX1_make 17 = .ok (.aload_n 1, 1) := by decide +kernel
theorem dX1_make_18 : decode cX1_make 18 = .ok (.getfield 31, 3) := by decide +kernel
theorem dX1_make_21 : decode cX1_make 21 = .ok (.aload_n 0, 1) := by decide +kernel
theorem dX1_make_22 : decode cX1_make 22 = .ok (.getfield 20, 3) := by decide +kernel
theorem dX1_make_25 : decode cX1_make 25 = .ok (.arraylength, 1) := by decide +kernel
theorem dX1_make_26 : decode cX1_make 26 = .ok (.invokestatic 36, 3) := by decide +kernel
theorem dX1_make_29 : decode cX1_make 29 = .ok (.iconst 1, 1) := by decide +kernel
theorem dX1_make_30 : decode cX1_make 30 = .ok (.isub, 1) := by decide +kernel
theorem dX1_make_31 : decode cX1_make 31 = .ok (.istore_n 3, 1) := by decide +kernel
theorem dX1_make_32 : decode cX1_make 32 = .ok (.iload_n 3, 1) := by decide +kernel
theorem dX1_make_33 : decode cX1_make 33 = .ok (.ifCond .lt 132, 3) := by decide +kernel
theorem dX1_make_36 : decode cX1_make 36 = .ok (.aload_n 0, 1) := by decide +kernel
theorem dX1_make_37 : decode cX1_make 37 = .ok (.getfield 20, 3) := by decide +kernel
theorem dX1_make_40 : decode cX1_make 40 = .ok (.iload_n 3, 1) := by decide +kernel
theorem dX1_make_41 : decode cX1_make 41 = .ok (.iconst 0, 1) := by decide +kernel
theorem dX1_make_42 : decode cX1_make 42 = .ok (.iastore, 1) := by decide +kernel
theorem dX1_make_43 : decode cX1_make 43 = .ok (.aload_n 1, 1) := by decide +kernel
theorem dX1_make_44 : decode cX1_make 44 = .ok (.getfield 42, 3) := by decide +kernel
theorem dX1_make_47 : decode cX1_make 47 = .ok (.iload_n 3, 1) := by decide +kernel
theorem dX1_make_48 : decode cX1_make 48 = .ok (.iaload, 1) := by decide +kernel
theorem dX1_make_49 : decode cX1_make 49 = .ok (.tableswitch 103 0 3 #[31, 93, 93, 57], 31) := by decide +kernel
theorem dX1_make_80 : decode cX1_make 80 = .ok (.aload_n 0, 1) := by decide +kernel
theorem dX1_make_81 : decode cX1_make 81 = .ok (.getfield 14, 3) := by decide +kernel
theorem dX1_make_84 : decode cX1_make 84 = .ok (.iload_n 3, 1) := by decide +kernel
theorem dX1_make_85 : decode cX1_make 85 = .ok (.bipush 64, 2) := by decide +kernel
theorem dX1_make_87 : decode cX1_make 87 = .ok (.imul, 1) := by decide +kernel
theorem dX1_make_88 : decode cX1_make 88 = .ok (.aload_n 1, 1) := by decide +kernel
theorem dX1_make_89 : decode cX1_make 89 = .ok (.getfield 45, 3) := by decide +kernel
theorem dX1_make_92 : decode cX1_make 92 = .ok (.iload_n 3, 1) := by decide +kernel
theorem dX1_make_93 : decode cX1_make 93 = .ok (.iaload, 1) := by decide +kernel
theorem dX1_make_94 : decode cX1_make 94 = .ok (.invokevirtual 48, 3) := by decide +kernel
theorem dX1_make_97 : decode cX1_make 97 = .ok (.aload_n 0, 1) := by decide +kernel
theorem dX1_make_98 : decode cX1_make 98 = .ok (.iload_n 3, 1) := by decide +kernel
theorem dX1_make_99 : decode cX1_make 99 = .ok (.iload_n 2, 1) := by decide +kernel
theorem dX1_make_100 : decode cX1_make 100 = .ok (.invokevirtual 52, 3) := by decide +kernel
theorem dX1_make_103 : decode cX1_make 103 = .ok (.goto 56, 3) := by decide +kernel
theorem dX1_make_106 : decode cX1_make 106 = .ok (.aload_n 0, 1) := by decide +kernel
theorem dX1_make_107 : decode cX1_make 107 = .ok (.iload_n 3, 1) := by decide +kernel
theorem dX1_make_108 : decode cX1_make 108 = .ok (.aload_n 1, 1) := by decide +kernel
theorem dX1_make_109 : decode cX1_make 109 = .ok (.getfield 55, 3) := by decide +kernel
theorem dX1_make_112 : decode cX1_make 112 = .ok (.iload_n 3, 1) := by decide +kernel
theorem dX1_make_113 : decode cX1_make 113 = .ok (.iaload, 1) := by decide +kernel
theorem dX1_make_114 : decode cX1_make 114 = .ok (.iconst 0, 1) := by decide +kernel
theorem dX1_make_115 : decode cX1_make 115 = .ok (.iload_n 2, 1) := by decide +kernel
theorem dX1_make_116 : decode cX1_make 116 = .ok (.invokevirtual 58, 3) := by decide +kernel
theorem dX1_make_119 : decode cX1_make 119 = .ok (.aload_n 0, 1) := by decide +kernel
theorem dX1_make_120 : decode cX1_make 120 = .ok (.iload_n 3, 1) := by decide +kernel
theorem dX1_make_121 : decode cX1_make 121 = .ok (.aload_n 1, 1) := by decide +kernel
theorem dX1_make_122 : decode cX1_make 122 = .ok (.getfield 62, 3) := by decide +kernel
theorem dX1_make_125 : decode cX1_make 125 = .ok (.iload_n 3, 1) := by decide +kernel
theorem dX1_make_126 : decode cX1_make 126 = .ok (.iaload, 1) := by decide +kernel
theorem dX1_make_127 : decode cX1_make 127 = .ok (.iconst 1, 1) := by decide +kernel
theorem dX1_make_128 : decode cX1_make 128 = .ok (.aload_n 1, 1) := by decide +kernel
theorem dX1_make_129 : decode cX1_make 129 = .ok (.getfield 45, 3) := by decide +kernel
theorem dX1_make_132 : decode cX1_make 132 = .ok (.iload_n 3, 1) := by decide +kernel
theorem dX1_make_133 : decode cX1_make 133 = .ok (.iaload, 1) := by decide +kernel
theorem dX1_make_134 : decode cX1_make 134 = .ok (.ishl, 1) := by decide +kernel
theorem dX1_make_135 : decode cX1_make 135 = .ok (.iload_n 2, 1) := by decide +kernel
theorem dX1_make_136 : decode cX1_make 136 = .ok (.invokevirtual 58, 3) := by decide +kernel
theorem dX1_make_139 : decode cX1_make 139 = .ok (.goto 20, 3) := by decide +kernel
theorem dX1_make_142 : decode cX1_make 142 = .ok (.aload_n 0, 1) := by decide +kernel
theorem dX1_make_143 : decode cX1_make 143 = .ok (.aload_n 1, 1) := by decide +kernel
theorem dX1_make_144 : decode cX1_make 144 = .ok (.iload_n 3, 1) := by decide +kernel
theorem dX1_make_145 : decode cX1_make 145 = .ok (.iload_n 2, 1) := by decide +kernel
theorem dX1_make_146 : decode cX1_make 146 = .ok (.invokevirtual 65, 3) := by decide +kernel
theorem dX1_make_149 : decode cX1_make 149 = .ok (.goto 10, 3) := by decide +kernel
theorem dX1_make_152 : decode cX1_make 152 = .ok (.aload_n 0, 1) := by decide +kernel
theorem dX1_make_153 : decode cX1_make 153 = .ok (.aload_n 1, 1) := by decide +kernel
theorem dX1_make_154 : decode cX1_make 154 = .ok (.iload_n 3, 1) := by decide +kernel
theorem dX1_make_155 : decode cX1_make 155 = .ok (.iload_n 2, 1) := by decide +kernel
theorem dX1_make_156 : decode cX1_make 156 = .ok (.invokevirtual 69, 3) := by decide +kernel
theorem dX1_make_159 : decode cX1_make 159 = .ok (.iinc 3 (-1), 3) := by decide +kernel
theorem dX1_make_162 : decode cX1_make 162 = .ok (.goto (-130), 3) := by decide +kernel
theorem dX1_make_165 : decode cX1_make 165 = .ok (.return_, 1) := by decide +kernel
theorem dX1_tryEach_0 : decode cX1_tryEach 0 = .ok (.iconst 0, 1) := by decide +kernel
theorem dX1_tryEach_1 : decode cX1_tryEach 1 = .ok (.istore 5, 2) := by decide +kernel
theorem dX1_tryEach_3 : decode cX1_tryEach 3 = .ok (.iload 5, 2) := by decide +kernel
theorem dX1_tryEach_5 : decode cX1_tryEach 5 = .ok (.aload_n 0, 1) := by decide +kernel
theorem dX1_tryEach_6 : decode cX1_tryEach 6 = .ok (.iload_n 2, 1) := by decide +kernel
theorem dX1_tryEach_7 : decode cX1_tryEach 7 = .ok (.invokevirtual 72, 3) := by decide +kernel
theorem dX1_tryEach_10 : decode cX1_tryEach 10 = .ok (.if_icmp .ge 36, 3) := by decide +kernel
theorem dX1_tryEach_13 : decode cX1_tryEach 13 = .ok (.aload_n 0, 1) := by decide +kernel
theorem dX1_tryEach_14 : decode cX1_tryEach 14 = .ok (.getfield 14, 3) := by decide +kernel
theorem dX1_tryEach_17 : decode cX1_tryEach 17 = .ok (.aload_n 0, 1) := by decide +kernel
theorem dX1_tryEach_18 : decode cX1_tryEach 18 = .ok (.iload_n 1, 1) := by decide +kernel
theorem dX1_tryEach_19 : decode cX1_tryEach 19 = .ok (.invokevirtual 76, 3) := by decide +kernel
theorem dX1_tryEach_22 : decode cX1_tryEach 22 = .ok (.iload_n 2, 1) := by decide +kernel
theorem dX1_tryEach_23 : decode cX1_tryEach 23 = .ok (.bipush 64, 2) := by decide +kernel
theorem dX1_tryEach_25 : decode cX1_tryEach 25 = .ok (.imul, 1) := by decide +kernel
theorem dX1_tryEach_26 : decode cX1_tryEach 26 = .ok (.iload 5, 2) := by decide +kernel
theorem dX1_tryEach_28 : decode cX1_tryEach 28 = .ok (.iadd, 1) := by decide +kernel
theorem dX1_tryEach_29 : decode cX1_tryEach 29 = .ok (.iload_n 3, 1) := by decide +kernel
theorem dX1_tryEach_30 : decode cX1_tryEach 30 = .ok (.invokevirtual 79, 3) := by decide +kernel
theorem dX1_tryEach_33 : decode cX1_tryEach 33 = .ok (.aload_n 0, 1) := by decide +kernel
theorem dX1_tryEach_34 : decode cX1_tryEach 34 = .ok (.iload_n 1, 1) := by decide +kernel
theorem dX1_tryEach_35 : decode cX1_tryEach 35 = .ok (.iload 4, 2) := by decide +kernel
theorem dX1_tryEach_37 : decode cX1_tryEach 37 = .ok (.invokevirtual 52, 3) := by decide +kernel
theorem dX1_tryEach_40 : decode cX1_tryEach 40 = .ok (.iinc 5 1, 3) := by decide +kernel
theorem dX1_tryEach_43 : decode cX1_tryEach 43 = .ok (.goto (-40), 3) := by decide +kernel
theorem dX1_tryEach_46 : decode cX1_tryEach 46 = .ok (.return_, 1) := by decide +kernel
theorem dX1_tryPairs_0 : decode cX1_tryPairs 0 = .ok (.aload_n 1, 1) := by decide +kernel
theorem dX1_tryPairs_1 : decode cX1_tryPairs 1 = .ok (.getfield 55, 3) := by decide +kernel
theorem dX1_tryPairs_4 : decode cX1_tryPairs 4 = .ok (.iload_n 2, 1) := by decide +kernel
theorem dX1_tryPairs_5 : decode cX1_tryPairs 5 = .ok (.iaload, 1) := by decide +kernel
theorem dX1_tryPairs_6 : decode cX1_tryPairs 6 = .ok (.istore 4, 2) := by decide +kernel
theorem dX1_tryPairs_8 : decode cX1_tryPairs 8 = .ok (.aload_n 1, 1) := by decide +kernel
theorem dX1_tryPairs_9 : decode cX1_tryPairs 9 = .ok (.getfield 62, 3) := by decide +kernel
theorem dX1_tryPairs_12 : decode cX1_tryPairs 12 = .ok (.iload_n 2, 1) := by decide +kernel
theorem dX1_tryPairs_13 : decode cX1_tryPairs 13 = .ok (.iaload, 1) := by decide +kernel
theorem dX1_tryPairs_14 : decode cX1_tryPairs 14 = .ok (.istore 5, 2) := by decide +kernel
theorem dX1_tryPairs_16 : decode cX1_tryPairs 16 = .ok (.iconst 0, 1) := by decide +kernel
theorem dX1_tryPairs_17 : decode cX1_tryPairs 17 = .ok (.istore 6, 2) := by decide +kernel
theorem dX1_tryPairs_19 : decode cX1_tryPairs 19 = .ok (.iload 6, 2) := by decide +kernel
theorem dX1_tryPairs_21 : decode cX1_tryPairs 21 = .ok (.aload_n 0, 1) := by decide +kernel
theorem dX1_tryPairs_22 : decode cX1_tryPairs 22 = .ok (.iload 4, 2) := by decide +kernel
theorem dX1_tryPairs_24 : decode cX1_tryPairs 24 = .ok (.invokevirtual 72, 3) := by decide +kernel
theorem dX1_tryPairs_27 : decode cX1_tryPairs 27 = .ok (.if_icmp .ge 70, 3) := by decide +kernel
theorem dX1_tryPairs_30 : decode cX1_tryPairs 30 = .ok (.iconst 0, 1) := by decide +kernel
theorem dX1_tryPairs_31 : decode cX1_tryPairs 31 = .ok (.istore 7, 2) := by decide +kernel
theorem dX1_tryPairs_33 : decode cX1_tryPairs 33 = .ok (.iload 7, 2) := by decide +kernel
theorem dX1_tryPairs_35 : decode cX1_tryPairs 35 = .ok (.aload_n 0, 1) := by decide +kernel
theorem dX1_tryPairs_36 : decode cX1_tryPairs 36 = .ok (.iload 5, 2) := by decide +kernel
theorem dX1_tryPairs_38 : decode cX1_tryPairs 38 = .ok (.invokevirtual 72, 3) := by decide +kernel
theorem dX1_tryPairs_41 : decode cX1_tryPairs 41 = .ok (.if_icmp .ge 50, 3) := by decide +kernel
theorem dX1_tryPairs_44 : decode cX1_tryPairs 44 = .ok (.aload_n 0, 1) := by decide +kernel
theorem dX1_tryPairs_45 : decode cX1_tryPairs 45 = .ok (.getfield 14, 3) := by decide +kernel
theorem dX1_tryPairs_48 : decode cX1_tryPairs 48 = .ok (.aload_n 0, 1) := by decide +kernel
theorem dX1_tryPairs_49 : decode cX1_tryPairs 49 = .ok (.iload_n 2, 1) := by decide +kernel
theorem dX1_tryPairs_50 : decode cX1_tryPairs 50 = .ok (.invokevirtual 76, 3) := by decide +kernel
theorem dX1_tryPairs_53 : decode cX1_tryPairs 53 = .ok (.aload_n 1, 1) := by decide +kernel
theorem dX1_tryPairs_54 : decode cX1_tryPairs 54 = .ok (.getfield 42, 3) := by decide +kernel
theorem dX1_tryPairs_57 : decode cX1_tryPairs 57 = .ok (.iload_n 2, 1) := by decide +kernel
theorem dX1_tryPairs_58 : decode cX1_tryPairs 58 = .ok (.iaload, 1) := by decide +kernel
theorem dX1_tryPairs_59 : decode cX1_tryPairs 59 = .ok (.iconst 0, 1) := by decide +kernel
theorem dX1_tryPairs_60 : decode cX1_tryPairs 60 = .ok (.iload 4, 2) := by decide +kernel
theorem dX1_tryPairs_62 : decode cX1_tryPairs 62 = .ok (.bipush 64, 2) := by decide +kernel
theorem dX1_tryPairs_64 : decode cX1_tryPairs 64 = .ok (.imul, 1) := by decide +kernel
theorem dX1_tryPairs_65 : decode cX1_tryPairs 65 = .ok (.iload 6, 2) := by decide +kernel
theorem dX1_tryPairs_67 : decode cX1_tryPairs 67 = .ok (.iadd, 1) := by decide +kernel
theorem dX1_tryPairs_68 : decode cX1_tryPairs 68 = .ok (.iload 5, 2) := by decide +kernel
theorem dX1_tryPairs_70 : decode cX1_tryPairs 70 = .ok (.bipush 64, 2) := by decide +kernel
theorem dX1_tryPairs_72 : decode cX1_tryPairs 72 = .ok (.imul, 1) := by decide +kernel
theorem dX1_tryPairs_73 : decode cX1_tryPairs 73 = .ok (.iload 7, 2) := by decide +kernel
theorem dX1_tryPairs_75 : decode cX1_tryPairs 75 = .ok (.iadd, 1) := by decide +kernel
theorem dX1_tryPairs_76 : decode cX1_tryPairs 76 = .ok (.invokevirtual 83, 3) := by decide +kernel
theorem dX1_tryPairs_79 : decode cX1_tryPairs 79 = .ok (.aload_n 0, 1) := by decide +kernel
theorem dX1_tryPairs_80 : decode cX1_tryPairs 80 = .ok (.iload_n 2, 1) := by decide +kernel
theorem dX1_tryPairs_81 : decode cX1_tryPairs 81 = .ok (.iload_n 3, 1) := by decide +kernel
theorem dX1_tryPairs_82 : decode cX1_tryPairs 82 = .ok (.invokevirtual 52, 3) := by decide +kernel
theorem dX1_tryPairs_85 : decode cX1_tryPairs 85 = .ok (.iinc 7 1, 3) := by decide +kernel
theorem dX1_tryPairs_88 : decode cX1_tryPairs 88 = .ok (.goto (-55), 3) := by decide +kernel
theorem dX1_tryPairs_91 : decode cX1_tryPairs 91 = .ok (.iinc 6 1, 3) := by decide +kernel
theorem dX1_tryPairs_94 : decode cX1_tryPairs 94 = .ok (.goto (-75), 3) := by decide +kernel
theorem dX1_tryPairs_97 : decode cX1_tryPairs 97 = .ok (.return_, 1) := by decide +kernel
theorem dX1_tryAlone_0 : decode cX1_tryAlone 0 = .ok (.aload_n 1, 1) := by decide +kernel
theorem dX1_tryAlone_1 : decode cX1_tryAlone 1 = .ok (.getfield 55, 3) := by decide +kernel
theorem dX1_tryAlone_4 : decode cX1_tryAlone 4 = .ok (.iload_n 2, 1) := by decide +kernel
theorem dX1_tryAlone_5 : decode cX1_tryAlone 5 = .ok (.iaload, 1) := by decide +kernel
theorem dX1_tryAlone_6 : decode cX1_tryAlone 6 = .ok (.istore 4, 2) := by decide +kernel
theorem dX1_tryAlone_8 : decode cX1_tryAlone 8 = .ok (.iconst 0, 1) := by decide +kernel
theorem dX1_tryAlone_9 : decode cX1_tryAlone 9 = .ok (.istore 5, 2) := by decide +kernel
theorem dX1_tryAlone_11 : decode cX1_tryAlone 11 = .ok (.iload 5, 2) := by decide +kernel
theorem dX1_tryAlone_13 : decode cX1_tryAlone 13 = .ok (.aload_n 0, 1) := by decide +kernel
theorem dX1_tryAlone_14 : decode cX1_tryAlone 14 = .ok (.iload 4, 2) := by decide +kernel
theorem dX1_tryAlone_16 : decode cX1_tryAlone 16 = .ok (.invokevirtual 72, 3) := by decide +kernel
theorem dX1_tryAlone_19 : decode cX1_tryAlone 19 = .ok (.if_icmp .ge 100, 3) := by decide +kernel
theorem dX1_tryAlone_22 : decode cX1_tryAlone 22 = .ok (.iload 4, 2) := by decide +kernel
theorem dX1_tryAlone_24 : decode cX1_tryAlone 24 = .ok (.bipush 64, 2) := by decide +kernel
theorem dX1_tryAlone_26 : decode cX1_tryAlone 26 = .ok (.imul, 1) := by decide +kernel
theorem dX1_tryAlone_27 : decode cX1_tryAlone 27 = .ok (.iload 5, 2) := by decide +kernel
theorem dX1_tryAlone_29 : decode cX1_tryAlone 29 = .ok (.iadd, 1) := by decide +kernel
theorem dX1_tryAlone_30 : decode cX1_tryAlone 30 = .ok (.istore 6, 2) := by decide +kernel
theorem dX1_tryAlone_32 : decode cX1_tryAlone 32 = .ok (.aload_n 1, 1) := by decide +kernel
theorem dX1_tryAlone_33 : decode cX1_tryAlone 33 = .ok (.getfield 42, 3) := by decide +kernel
theorem dX1_tryAlone_36 : decode cX1_tryAlone 36 = .ok (.iload_n 2, 1) := by decide +kernel
theorem dX1_tryAlone_37 : decode cX1_tryAlone 37 = .ok (.iaload, 1) := by decide +kernel
theorem dX1_tryAlone_38 : decode cX1_tryAlone 38 = .ok (.iconst 5, 1) := by decide +kernel
theorem dX1_tryAlone_39 : decode cX1_tryAlone 39 = .ok (.if_icmp .ne 40, 3) := by decide +kernel
theorem dX1_tryAlone_42 : decode cX1_tryAlone 42 = .ok (.aload_n 0, 1) := by decide +kernel
theorem dX1_tryAlone_43 : decode cX1_tryAlone 43 = .ok (.getfield 14, 3) := by decide +kernel
theorem dX1_tryAlone_46 : decode cX1_tryAlone 46 = .ok (.iload 6, 2) := by decide +kernel
theorem dX1_tryAlone_48 : decode cX1_tryAlone 48 = .ok (.iconst 0, 1) := by decide +kernel
theorem dX1_tryAlone_49 : decode cX1_tryAlone 49 = .ok (.invokevirtual 87, 3) := by decide +kernel
theorem dX1_tryAlone_52 : decode cX1_tryAlone 52 = .ok (.iconst 1, 1) := by decide +kernel
theorem dX1_tryAlone_53 : decode cX1_tryAlone 53 = .ok (.if_icmp .eq 26, 3) := by decide +kernel
theorem dX1_tryAlone_56 : decode cX1_tryAlone 56 = .ok (.aload_n 0, 1) := by decide +kernel
theorem dX1_tryAlone_57 : decode cX1_tryAlone 57 = .ok (.dup, 1) := by decide +kernel
theorem dX1_tryAlone_58 : decode cX1_tryAlone 58 = .ok (.getfield 24, 3) := by decide +kernel
theorem dX1_tryAlone_61 : decode cX1_tryAlone 61 = .ok (.iconst 1, 1) := by decide +kernel
theorem dX1_tryAlone_62 : decode cX1_tryAlone 62 = .ok (.iadd, 1) := by decide +kernel
theorem dX1_tryAlone_63 : decode cX1_tryAlone 63 = .ok (.putfield 24, 3) := by decide +kernel
theorem dX1_tryAlone_66 : decode cX1_tryAlone 66 = .ok (.aload_n 0, 1) := by decide +kernel
theorem dX1_tryAlone_67 : decode cX1_tryAlone 67 = .ok (.dup, 1) := by decide +kernel
theorem dX1_tryAlone_68 : decode cX1_tryAlone 68 = .ok (.getfield 28, 3) := by decide +kernel
theorem dX1_tryAlone_71 : decode cX1_tryAlone 71 = .ok (.iconst 1, 1) := by decide +kernel
theorem dX1_tryAlone_72 : decode cX1_tryAlone 72 = .ok (.iadd, 1) := by decide +kernel
theorem dX1_tryAlone_73 : decode cX1_tryAlone 73 = .ok (.putfield 28, 3) := by decide +kernel
theorem dX1_tryAlone_76 : decode cX1_tryAlone 76 = .ok (.goto 37, 3) := by decide +kernel
theorem dX1_tryAlone_79 : decode cX1_tryAlone 79 = .ok (.aload_n 0, 1) := by decide +kernel
theorem dX1_tryAlone_80 : decode cX1_tryAlone 80 = .ok (.getfield 14, 3) := by decide +kernel
theorem dX1_tryAlone_83 : decode cX1_tryAlone 83 = .ok (.aload_n 0, 1) := by decide +kernel
theorem dX1_tryAlone_84 : decode cX1_tryAlone 84 = .ok (.iload_n 2, 1) := by decide +kernel
theorem dX1_tryAlone_85 : decode cX1_tryAlone 85 = .ok (.invokevirtual 76, 3) := by decide +kernel
theorem dX1_tryAlone_88 : decode cX1_tryAlone 88 = .ok (.aload_n 1, 1) := by decide +kernel
theorem dX1_tryAlone_89 : decode cX1_tryAlone 89 = .ok (.getfield 42, 3) := by decide +kernel
theorem dX1_tryAlone_92 : decode cX1_tryAlone 92 = .ok (.iload_n 2, 1) := by decide +kernel
theorem dX1_tryAlone_93 : decode cX1_tryAlone 93 = .ok (.iaload, 1) := by decide +kernel
theorem dX1_tryAlone_94 : decode cX1_tryAlone 94 = .ok (.aload_n 1, 1) := by decide +kernel
theorem dX1_tryAlone_95 : decode cX1_tryAlone 95 = .ok (.getfield 45, 3) := by decide +kernel
theorem dX1_tryAlone_98 : decode cX1_tryAlone 98 = .ok (.iload_n 2, 1) := by decide +kernel
theorem dX1_tryAlone_99 : decode cX1_tryAlone 99 = .ok (.iaload, 1) := by decide +kernel
theorem dX1_tryAlone_100 : decode cX1_tryAlone 100 = .ok (.iload 6, 2) := by decide +kernel
theorem dX1_tryAlone_102 : decode cX1_tryAlone 102 = .ok (.iload 6, 2) := by decide +kernel
theorem dX1_tryAlone_104 : decode cX1_tryAlone 104 = .ok (.invokevirtual 83, 3) := by decide +kernel
theorem dX1_tryAlone_107 : decode cX1_tryAlone 107 = .ok (.aload_n 0, 1) := by decide +kernel
theorem dX1_tryAlone_108 : decode cX1_tryAlone 108 = .ok (.iload_n 2, 1) := by decide +kernel
theorem dX1_tryAlone_109 : decode cX1_tryAlone 109 = .ok (.iload_n 3, 1) := by decide +kernel
theorem dX1_tryAlone_110 : decode cX1_tryAlone 110 = .ok (.invokevirtual 52, 3) := by decide +kernel
theorem dX1_tryAlone_113 : decode cX1_tryAlone 113 = .ok (.iinc 5 1, 3) := by decide +kernel
theorem dX1_tryAlone_116 : decode cX1_tryAlone 116 = .ok (.goto (-105), 3) := by decide +kernel
theorem dX1_tryAlone_119 : decode cX1_tryAlone 119 = .ok (.return_, 1) := by decide +kernel
theorem dX1_trialPlace_0 : decode cX1_trialPlace 0 = .ok (.iload_n 1, 1) := by decide +kernel
theorem dX1_trialPlace_1 : decode cX1_trialPlace 1 = .ok (.ifCond .lt 37, 3) := by decide +kernel
theorem dX1_trialPlace_4 : decode cX1_trialPlace 4 = .ok (.iload_n 1, 1) := by decide +kernel
theorem dX1_trialPlace_5 : decode cX1_trialPlace 5 = .ok (.aload_n 0, 1) := by decide +kernel
theorem dX1_trialPlace_6 : decode cX1_trialPlace 6 = .ok (.getfield 20, 3) := by decide +kernel
theorem dX1_trialPlace_9 : decode cX1_trialPlace 9 = .ok (.arraylength, 1) := by decide +kernel
theorem dX1_trialPlace_10 : decode cX1_trialPlace 10 = .ok (.if_icmp .ge 28, 3) := by decide +kernel
theorem dX1_trialPlace_13 : decode cX1_trialPlace 13 = .ok (.aload_n 0, 1) := by decide +kernel
theorem dX1_trialPlace_14 : decode cX1_trialPlace 14 = .ok (.getfield 20, 3) := by decide +kernel
theorem dX1_trialPlace_17 : decode cX1_trialPlace 17 = .ok (.iload_n 1, 1) := by decide +kernel
theorem dX1_trialPlace_18 : decode cX1_trialPlace 18 = .ok (.iaload, 1) := by decide +kernel
theorem dX1_trialPlace_19 : decode cX1_trialPlace 19 = .ok (.bipush 64, 2) := by decide +kernel
theorem dX1_trialPlace_21 : decode cX1_trialPlace 21 = .ok (.if_icmp .ge 17, 3) := by decide +kernel
theorem dX1_trialPlace_24 : decode cX1_trialPlace 24 = .ok (.iload_n 1, 1) := by decide +kernel
theorem dX1_trialPlace_25 : decode cX1_trialPlace 25 = .ok (.bipush 64, 2) := by decide +kernel
theorem dX1_trialPlace_27 : decode cX1_trialPlace 27 = .ok (.imul, 1) := by decide +kernel
theorem dX1_trialPlace_28 : decode cX1_trialPlace 28 = .ok (.aload_n 0, 1) := by decide +kernel
theorem dX1_trialPlace_29 : decode cX1_trialPlace 29 = .ok (.getfield 20, 3) := by decide +kernel
theorem dX1_trialPlace_32 : decode cX1_trialPlace 32 = .ok (.iload_n 1, 1) := by decide +kernel
theorem dX1_trialPlace_33 : decode cX1_trialPlace 33 = .ok (.iaload, 1) := by decide +kernel
theorem dX1_trialPlace_34 : decode cX1_trialPlace 34 = .ok (.iadd, 1) := by decide +kernel
theorem dX1_trialPlace_35 : decode cX1_trialPlace 35 = .ok (.goto 4, 3) := by decide +kernel
theorem dX1_trialPlace_38 : decode cX1_trialPlace 38 = .ok (.iconst (-1), 1) := by decide +kernel
theorem dX1_trialPlace_39 : decode cX1_trialPlace 39 = .ok (.ireturn, 1) := by decide +kernel
theorem dX1_tryLast_0 : decode cX1_tryLast 0 = .ok (.iload_n 1, 1) := by decide +kernel
theorem dX1_tryLast_1 : decode cX1_tryLast 1 = .ok (.bipush 64, 2) := by decide +kernel
theorem dX1_tryLast_3 : decode cX1_tryLast 3 = .ok (.imul, 1) := by decide +kernel
theorem dX1_tryLast_4 : decode cX1_tryLast 4 = .ok (.istore_n 3, 1) := by decide +kernel
theorem dX1_tryLast_5 : decode cX1_tryLast 5 = .ok (.aload_n 0, 1) := by decide +kernel
theorem dX1_tryLast_6 : decode cX1_tryLast 6 = .ok (.iload_n 1, 1) := by decide +kernel
theorem dX1_tryLast_7 : decode cX1_tryLast 7 = .ok (.invokevirtual 76, 3) := by decide +kernel
theorem dX1_tryLast_10 : decode cX1_tryLast 10 = .ok (.istore 4, 2) := by decide +kernel
theorem dX1_tryLast_12 : decode cX1_tryLast 12 = .ok (.aload_n 0, 1) := by decide +kernel
theorem dX1_tryLast_13 : decode cX1_tryLast 13 = .ok (.getfield 14, 3) := by decide +kernel
theorem dX1_tryLast_16 : decode cX1_tryLast 16 = .ok (.iload 4, 2) := by decide +kernel
theorem dX1_tryLast_18 : decode cX1_tryLast 18 = .ok (.invokevirtual 90, 3) := by decide +kernel
theorem dX1_tryLast_21 : decode cX1_tryLast 21 = .ok (.ifCond .ne 4, 3) := by decide +kernel
theorem dX1_tryLast_24 : decode cX1_tryLast 24 = .ok (.return_, 1) := by decide +kernel
theorem dX1_tryLast_25 : decode cX1_tryLast 25 = .ok (.aload_n 0, 1) := by decide +kernel
theorem dX1_tryLast_26 : decode cX1_tryLast 26 = .ok (.dup, 1) := by decide +kernel
theorem dX1_tryLast_27 : decode cX1_tryLast 27 = .ok (.getfield 24, 3) := by decide +kernel
theorem dX1_tryLast_30 : decode cX1_tryLast 30 = .ok (.iconst 1, 1) := by decide +kernel
theorem dX1_tryLast_31 : decode cX1_tryLast 31 = .ok (.iadd, 1) := by decide +kernel
theorem dX1_tryLast_32 : decode cX1_tryLast 32 = .ok (.putfield 24, 3) := by decide +kernel
theorem dX1_tryLast_35 : decode cX1_tryLast 35 = .ok (.aload_n 0, 1) := by decide +kernel
theorem dX1_tryLast_36 : decode cX1_tryLast 36 = .ok (.getfield 14, 3) := by decide +kernel
theorem dX1_tryLast_39 : decode cX1_tryLast 39 = .ok (.getfield 94, 3) := by decide +kernel
theorem dX1_tryLast_42 : decode cX1_tryLast 42 = .ok (.iload 4, 2) := by decide +kernel
theorem dX1_tryLast_44 : decode cX1_tryLast 44 = .ok (.iaload, 1) := by decide +kernel
theorem dX1_tryLast_45 : decode cX1_tryLast 45 = .ok (.iload_n 2, 1) := by decide +kernel
theorem dX1_tryLast_46 : decode cX1_tryLast 46 = .ok (.if_icmp .le 7, 3) := by decide +kernel
theorem dX1_tryLast_49 : decode cX1_tryLast 49 = .ok (.iconst 1, 1) := by decide +kernel
theorem dX1_tryLast_50 : decode cX1_tryLast 50 = .ok (.goto 4, 3) := by decide +kernel
theorem dX1_tryLast_53 : decode cX1_tryLast 53 = .ok (.iconst 0, 1) := by decide +kernel
theorem dX1_tryLast_54 : decode cX1_tryLast 54 = .ok (.istore 5, 2) := by decide +kernel
theorem dX1_tryLast_56 : decode cX1_tryLast 56 = .ok (.iload_n 3, 1) := by decide +kernel
theorem dX1_tryLast_57 : decode cX1_tryLast 57 = .ok (.istore 6, 2) := by decide +kernel
theorem dX1_tryLast_59 : decode cX1_tryLast 59 = .ok (.iload 6, 2) := by decide +kernel
theorem dX1_tryLast_61 : decode cX1_tryLast 61 = .ok (.iload 4, 2) := by decide +kernel
theorem dX1_tryLast_63 : decode cX1_tryLast 63 = .ok (.if_icmp .ge 27, 3) := by decide +kernel
theorem dX1_tryLast_66 : decode cX1_tryLast 66 = .ok (.iload 5, 2) := by decide +kernel
theorem dX1_tryLast_68 : decode cX1_tryLast 68 = .ok (.ifCond .ne 22, 3) := by decide +kernel
theorem dX1_tryLast_71 : decode cX1_tryLast 71 = .ok (.aload_n 0, 1) := by decide +kernel
theorem dX1_tryLast_72 : decode cX1_tryLast 72 = .ok (.getfield 14, 3) := by decide +kernel
theorem dX1_tryLast_75 : decode cX1_tryLast 75 = .ok (.iload 6, 2) := by decide +kernel
theorem dX1_tryLast_77 : decode cX1_tryLast 77 = .ok (.iload 4, 2) := by decide +kernel
theorem dX1_tryLast_79 : decode cX1_tryLast 79 = .ok (.invokevirtual 97, 3) := by decide +kernel
theorem dX1_tryLast_82 : decode cX1_tryLast 82 = .ok (.istore 5, 2) := by decide +kernel
theorem dX1_tryLast_84 : decode cX1_tryLast 84 = .ok (.iinc 6 1, 3) := by decide +kernel
theorem dX1_tryLast_87 : decode cX1_tryLast 87 = .ok (.goto (-28), 3) := by decide +kernel
theorem dX1_tryLast_90 : decode cX1_tryLast 90 = .ok (.iload 5, 2) := by decide +kernel
theorem dX1_tryLast_92 : decode cX1_tryLast 92 = .ok (.ifCond .eq 14, 3) := by decide +kernel
theorem dX1_tryLast_95 : decode cX1_tryLast 95 = .ok (.aload_n 0, 1) := by decide +kernel
theorem dX1_tryLast_96 : decode cX1_tryLast 96 = .ok (.dup, 1) := by decide +kernel
theorem dX1_tryLast_97 : decode cX1_tryLast 97 = .ok (.getfield 28, 3) := by decide +kernel
theorem dX1_tryLast_100 : decode cX1_tryLast 100 = .ok (.iconst 1, 1) := by decide +kernel
theorem dX1_tryLast_101 : decode cX1_tryLast 101 = .ok (.iadd, 1) := by decide +kernel
theorem dX1_tryLast_102 : decode cX1_tryLast 102 = .ok (.putfield 28, 3) := by decide +kernel
theorem dX1_tryLast_105 : decode cX1_tryLast 105 = .ok (.return_, 1) := by decide +kernel
theorem dX1_tryLast_106 : decode cX1_tryLast 106 = .ok (.iload_n 3, 1) := by decide +kernel
theorem dX1_tryLast_107 : decode cX1_tryLast 107 = .ok (.istore 6, 2) := by decide +kernel
theorem dX1_tryLast_109 : decode cX1_tryLast 109 = .ok (.iload_n 3, 1) := by decide +kernel
theorem dX1_tryLast_110 : decode cX1_tryLast 110 = .ok (.istore 7, 2) := by decide +kernel
theorem dX1_tryLast_112 : decode cX1_tryLast 112 = .ok (.iload 7, 2) := by decide +kernel
theorem dX1_tryLast_114 : decode cX1_tryLast 114 = .ok (.iload 4, 2) := by decide +kernel
theorem dX1_tryLast_116 : decode cX1_tryLast 116 = .ok (.if_icmp .ge 51, 3) := by decide +kernel
theorem dX1_tryLast_119 : decode cX1_tryLast 119 = .ok (.aload_n 0, 1) := by decide +kernel
theorem dX1_tryLast_120 : decode cX1_tryLast 120 = .ok (.getfield 14, 3) := by decide +kernel
theorem dX1_tryLast_123 : decode cX1_tryLast 123 = .ok (.iload 4, 2) := by decide +kernel
theorem dX1_tryLast_125 : decode cX1_tryLast 125 = .ok (.iload 7, 2) := by decide +kernel
theorem dX1_tryLast_127 : decode cX1_tryLast 127 = .ok (.invokevirtual 97, 3) := by decide +kernel
theorem dX1_tryLast_130 : decode cX1_tryLast 130 = .ok (.ifCond .eq 16, 3) := by decide +kernel
theorem dX1_tryLast_133 : decode cX1_tryLast 133 = .ok (.aload_n 0, 1) := by decide +kernel
theorem dX1_tryLast_134 : decode cX1_tryLast 134 = .ok (.dup, 1) := by decide +kernel
theorem dX1_tryLast_135 : decode cX1_tryLast 135 = .ok (.getfield 28, 3) := by decide +kernel
theorem dX1_tryLast_138 : decode cX1_tryLast 138 = .ok (.iconst 1, 1) := by decide +kernel
theorem dX1_tryLast_139 : decode cX1_tryLast 139 = .ok (.iadd, 1) := by decide +kernel
theorem dX1_tryLast_140 : decode cX1_tryLast 140 = .ok (.putfield 28, 3) := by decide +kernel
theorem dX1_tryLast_143 : decode cX1_tryLast 143 = .ok (.goto 18, 3) := by decide +kernel
theorem dX1_tryLast_146 : decode cX1_tryLast 146 = .ok (.aload_n 0, 1) := by decide +kernel
theorem dX1_tryLast_147 : decode cX1_tryLast 147 = .ok (.getfield 14, 3) := by decide +kernel
theorem dX1_tryLast_150 : decode cX1_tryLast 150 = .ok (.iload 6, 2) := by decide +kernel
theorem dX1_tryLast_152 : decode cX1_tryLast 152 = .ok (.iload 7, 2) := by decide +kernel
theorem dX1_tryLast_154 : decode cX1_tryLast 154 = .ok (.iconst 0, 1) := by decide +kernel
theorem dX1_tryLast_155 : decode cX1_tryLast 155 = .ok (.invokevirtual 79, 3) := by decide +kernel
theorem dX1_tryLast_158 : decode cX1_tryLast 158 = .ok (.iinc 6 1, 3) := by decide +kernel
theorem dX1_tryLast_161 : decode cX1_tryLast 161 = .ok (.iinc 7 1, 3) := by decide +kernel
theorem dX1_tryLast_164 : decode cX1_tryLast 164 = .ok (.goto (-52), 3) := by decide +kernel
theorem dX1_tryLast_167 : decode cX1_tryLast 167 = .ok (.aload_n 0, 1) := by decide +kernel
theorem dX1_tryLast_168 : decode cX1_tryLast 168 = .ok (.getfield 14, 3) := by decide +kernel
theorem dX1_tryLast_171 : decode cX1_tryLast 171 = .ok (.iload 6, 2) := by decide +kernel
theorem dX1_tryLast_173 : decode cX1_tryLast 173 = .ok (.iload 4, 2) := by decide +kernel
theorem dX1_tryLast_175 : decode cX1_tryLast 175 = .ok (.iconst 0, 1) := by decide +kernel
theorem dX1_tryLast_176 : decode cX1_tryLast 176 = .ok (.invokevirtual 79, 3) := by decide +kernel
theorem dX1_tryLast_179 : decode cX1_tryLast 179 = .ok (.aload_n 0, 1) := by decide +kernel
theorem dX1_tryLast_180 : decode cX1_tryLast 180 = .ok (.getfield 20, 3) := by decide +kernel
theorem dX1_tryLast_183 : decode cX1_tryLast 183 = .ok (.iload_n 1, 1) := by decide +kernel
theorem dX1_tryLast_184 : decode cX1_tryLast 184 = .ok (.iload 6, 2) := by decide +kernel
theorem dX1_tryLast_186 : decode cX1_tryLast 186 = .ok (.iconst 1, 1) := by decide +kernel
theorem dX1_tryLast_187 : decode cX1_tryLast 187 = .ok (.iadd, 1) := by decide +kernel
theorem dX1_tryLast_188 : decode cX1_tryLast 188 = .ok (.iload_n 3, 1) := by decide +kernel
theorem dX1_tryLast_189 : decode cX1_tryLast 189 = .ok (.isub, 1) := by decide +kernel
theorem dX1_tryLast_190 : decode cX1_tryLast 190 = .ok (.iastore, 1) := by decide +kernel
theorem dX1_tryLast_191 : decode cX1_tryLast 191 = .ok (.return_, 1) := by decide +kernel
theorem dX1_fewestLines_0 : decode cX1_fewestLines 0 = .ok (.aload_n 0, 1) := by decide +kernel
theorem dX1_fewestLines_1 : decode cX1_fewestLines 1 = .ok (.iconst 0, 1) := by decide +kernel
theorem dX1_fewestLines_2 : decode cX1_fewestLines 2 = .ok (.invokevirtual 72, 3) := by decide +kernel
theorem dX1_fewestLines_5 : decode cX1_fewestLines 5 = .ok (.ifCond .ne 7, 3) := by decide +kernel
theorem dX1_fewestLines_8 : decode cX1_fewestLines 8 = .ok (.iconst (-1), 1) := by decide +kernel
theorem dX1_fewestLines_9 : decode cX1_fewestLines 9 = .ok (.goto 4, 3) := by decide +kernel
theorem dX1_fewestLines_12 : decode cX1_fewestLines 12 = .ok (.iconst 0, 1) := by decide +kernel
theorem dX1_fewestLines_13 : decode cX1_fewestLines 13 = .ok (.istore_n 1, 1) := by decide +kernel
theorem dX1_fewestLines_14 : decode cX1_fewestLines 14 = .ok (.iconst 1, 1) := by decide +kernel
theorem dX1_fewestLines_15 : decode cX1_fewestLines 15 = .ok (.istore_n 2, 1) := by decide +kernel
theorem dX1_fewestLines_16 : decode cX1_fewestLines 16 = .ok (.iload_n 2, 1) := by decide +kernel
theorem dX1_fewestLines_17 : decode cX1_fewestLines 17 = .ok (.aload_n 0, 1) := by decide +kernel
theorem dX1_fewestLines_18 : decode cX1_fewestLines 18 = .ok (.iconst 0, 1) := by decide +kernel
theorem dX1_fewestLines_19 : decode cX1_fewestLines 19 = .ok (.invokevirtual 72, 3) := by decide +kernel
theorem dX1_fewestLines_22 : decode cX1_fewestLines 22 = .ok (.if_icmp .ge 23, 3) := by decide +kernel
theorem dX1_fewestLines_25 : decode cX1_fewestLines 25 = .ok (.aload_n 0, 1) := by decide +kernel
theorem dX1_fewestLines_26 : decode cX1_fewestLines 26 = .ok (.getfield 14, 3) := by decide +kernel
theorem dX1_fewestLines_29 : decode cX1_fewestLines 29 = .ok (.iload_n 2, 1) := by decide +kernel
theorem dX1_fewestLines_30 : decode cX1_fewestLines 30 = .ok (.iload_n 1, 1) := by decide +kernel
theorem dX1_fewestLines_31 : decode cX1_fewestLines 31 = .ok (.invokevirtual 101, 3) := by decide +kernel
theorem dX1_fewestLines_34 : decode cX1_fewestLines 34 = .ok (.ifCond .eq 5, 3) := by decide +kernel
theorem dX1_fewestLines_37 : decode cX1_fewestLines 37 = .ok (.iload_n 2, 1) := by decide +kernel
theorem dX1_fewestLines_38 : decode cX1_fewestLines 38 = .ok (.istore_n 1, 1) := by decide +kernel
theorem dX1_fewestLines_39 : decode cX1_fewestLines 39 = .ok (.iinc 2 1, 3) := by decide +kernel
theorem dX1_fewestLines_42 : decode cX1_fewestLines 42 = .ok (.goto (-26), 3) := by decide +kernel
theorem dX1_fewestLines_45 : decode cX1_fewestLines 45 = .ok (.iload_n 1, 1) := by decide +kernel
theorem dX1_fewestLines_46 : decode cX1_fewestLines 46 = .ok (.ireturn, 1) := by decide +kernel
theorem dX1_leastMost_0 : decode cX1_leastMost 0 = .ok (.aload_n 0, 1) := by decide +kernel
theorem dX1_leastMost_1 : decode cX1_leastMost 1 = .ok (.iconst 0, 1) := by decide +kernel
theorem dX1_leastMost_2 : decode cX1_leastMost 2 = .ok (.invokevirtual 72, 3) := by decide +kernel
theorem dX1_leastMost_5 : decode cX1_leastMost 5 = .ok (.ifCond .ne 7, 3) := by decide +kernel
theorem dX1_leastMost_8 : decode cX1_leastMost 8 = .ok (.iconst (-1), 1) := by decide +kernel
theorem dX1_leastMost_9 : decode cX1_leastMost 9 = .ok (.goto 4, 3) := by decide +kernel
theorem dX1_leastMost_12 : decode cX1_leastMost 12 = .ok (.iconst 0, 1) := by decide +kernel
theorem dX1_leastMost_13 : decode cX1_leastMost 13 = .ok (.istore_n 1, 1) := by decide +kernel
theorem dX1_leastMost_14 : decode cX1_leastMost 14 = .ok (.iconst 1, 1) := by decide +kernel
theorem dX1_leastMost_15 : decode cX1_leastMost 15 = .ok (.istore_n 2, 1) := by decide +kernel
theorem dX1_leastMost_16 : decode cX1_leastMost 16 = .ok (.iload_n 2, 1) := by decide +kernel
theorem dX1_leastMost_17 : decode cX1_leastMost 17 = .ok (.aload_n 0, 1) := by decide +kernel
theorem dX1_leastMost_18 : decode cX1_leastMost 18 = .ok (.iconst 0, 1) := by decide +kernel
theorem dX1_leastMost_19 : decode cX1_leastMost 19 = .ok (.invokevirtual 72, 3) := by decide +kernel
theorem dX1_leastMost_22 : decode cX1_leastMost 22 = .ok (.if_icmp .ge 23, 3) := by decide +kernel
theorem dX1_leastMost_25 : decode cX1_leastMost 25 = .ok (.aload_n 0, 1) := by decide +kernel
theorem dX1_leastMost_26 : decode cX1_leastMost 26 = .ok (.getfield 14, 3) := by decide +kernel
theorem dX1_leastMost_29 : decode cX1_leastMost 29 = .ok (.iload_n 2, 1) := by decide +kernel
theorem dX1_leastMost_30 : decode cX1_leastMost 30 = .ok (.iload_n 1, 1) := by decide +kernel
theorem dX1_leastMost_31 : decode cX1_leastMost 31 = .ok (.invokevirtual 104, 3) := by decide +kernel
theorem dX1_leastMost_34 : decode cX1_leastMost 34 = .ok (.ifCond .eq 5, 3) := by decide +kernel
theorem dX1_leastMost_37 : decode cX1_leastMost 37 = .ok (.iload_n 2, 1) := by decide +kernel
theorem dX1_leastMost_38 : decode cX1_leastMost 38 = .ok (.istore_n 1, 1) := by decide +kernel
theorem dX1_leastMost_39 : decode cX1_leastMost 39 = .ok (.iinc 2 1, 3) := by decide +kernel
theorem dX1_leastMost_42 : decode cX1_leastMost 42 = .ok (.goto (-26), 3) := by decide +kernel
theorem dX1_leastMost_45 : decode cX1_leastMost 45 = .ok (.iload_n 1, 1) := by decide +kernel
theorem dX1_leastMost_46 : decode cX1_leastMost 46 = .ok (.ireturn, 1) := by decide +kernel
end
section
theorem dX2_init_0 : decode cX2_init 0 = .ok (.aload_n 0, 1) := by decide +kernel
theorem dX2_init_1 : decode cX2_init 1 = .ok (.invokespecial 3, 3) := by decide +kernel
theorem dX2_init_4 : decode cX2_init 4 = .ok (.aload_n 0, 1) := by decide +kernel
theorem dX2_init_5 : decode cX2_init 5 = .ok (.bipush 40, 2) := by decide +kernel
theorem dX2_init_7 : decode cX2_init 7 = .ok (.newarray .boolean, 2) := by decide +kernel
theorem dX2_init_9 : decode cX2_init 9 = .ok (.putfield 9, 3) := by decide +kernel
theorem dX2_init_12 : decode cX2_init 12 = .ok (.aload_n 0, 1) := by decide +kernel
theorem dX2_init_13 : decode cX2_init 13 = .ok (.bipush 40, 2) := by decide +kernel
theorem dX2_init_15 : decode cX2_init 15 = .ok (.newarray .int, 2) := by decide +kernel
theorem dX2_init_17 : decode cX2_init 17 = .ok (.putfield 15, 3) := by decide +kernel
theorem dX2_init_20 : decode cX2_init 20 = .ok (.aload_n 0, 1) := by decide +kernel
theorem dX2_init_21 : decode cX2_init 21 = .ok (.bipush 40, 2) := by decide +kernel
theorem dX2_init_23 : decode cX2_init 23 = .ok (.newarray .int, 2) := by decide +kernel
theorem dX2_init_25 : decode cX2_init 25 = .ok (.putfield 19, 3) := by decide +kernel
theorem dX2_init_28 : decode cX2_init 28 = .ok (.aload_n 0, 1) := by decide +kernel
theorem dX2_init_29 : decode cX2_init 29 = .ok (.bipush 40, 2) := by decide +kernel
theorem dX2_init_31 : decode cX2_init 31 = .ok (.newarray .int, 2) := by decide +kernel
theorem dX2_init_33 : decode cX2_init 33 = .ok (.putfield 22, 3) := by decide +kernel
theorem dX2_init_36 : decode cX2_init 36 = .ok (.aload_n 0, 1) := by decide +kernel
theorem dX2_init_37 : decode cX2_init 37 = .ok (.bipush 40, 2) := by decide +kernel
theorem dX2_init_39 : decode cX2_init 39 = .ok (.newarray .int, 2) := by decide +kernel
theorem dX2_init_41 : decode cX2_init 41 = .ok (.putfield 25, 3) := by decide +kernel
theorem dX2_init_44 : decode cX2_init 44 = .ok (.return_, 1) := by decide +kernel
theorem dX2_clear_0 : decode cX2_clear 0 = .ok (.aload_n 0, 1) := by decide +kernel
theorem dX2_clear_1 : decode cX2_clear 1 = .ok (.iconst 0, 1) := by decide +kernel
theorem dX2_clear_2 : decode cX2_clear 2 = .ok (.putfield 28, 3) := by decide +kernel
theorem dX2_clear_5 : decode cX2_clear 5 = .ok (.return_, 1) := by decide +kernel
theorem dX2_place_0 : decode cX2_place 0 = .ok (.aload_n 0, 1) := by decide +kernel
theorem dX2_place_1 : decode cX2_place 1 = .ok (.aload_n 1, 1) := by decide +kernel
theorem dX2_place_2 : decode cX2_place 2 = .ok (.getfield 32, 3) := by decide +kernel
theorem dX2_place_5 : decode cX2_place 5 = .ok (.putfield 28, 3) := by decide +kernel
theorem dX2_place_8 : decode cX2_place 8 = .ok (.iconst 0, 1) := by decide +kernel
theorem dX2_place_9 : decode cX2_place 9 = .ok (.istore_n 3, 1) := by decide +kernel
theorem dX2_place_10 : decode cX2_place 10 = .ok (.iload_n 3, 1) := by decide +kernel
theorem dX2_place_11 : decode cX2_place 11 = .ok (.aload_n 0, 1) := by decide +kernel
theorem dX2_place_12 : decode cX2_place 12 = .ok (.getfield 9, 3) := by decide +kernel
theorem dX2_place_15 : decode cX2_place 15 = .ok (.arraylength, 1) := by decide +kernel
theorem dX2_place_16 : decode cX2_place 16 = .ok (.if_icmp .ge 16, 3) := by decide +kernel
theorem dX2_place_19 : decode cX2_place 19 = .ok (.aload_n 0, 1) := by decide +kernel
theorem dX2_place_20 : decode cX2_place 20 = .ok (.getfield 9, 3) := by decide +kernel
theorem dX2_place_23 : decode cX2_place 23 = .ok (.iload_n 3, 1) := by decide +kernel
theorem dX2_place_24 : decode cX2_place 24 = .ok (.iconst 0, 1) := by decide +kernel
theorem dX2_place_25 : decode cX2_place 25 = .ok (.bastore, 1) := by decide +kernel
theorem dX2_place_26 : decode cX2_place 26 = .ok (.iinc 3 1, 3) := by decide +kernel
theorem dX2_place_29 : decode cX2_place 29 = .ok (.goto (-19), 3) := by decide +kernel
theorem dX2_place_32 : decode cX2_place 32 = .ok (.aload_n 0, 1) := by decide +kernel
theorem dX2_place_33 : decode cX2_place 33 = .ok (.iconst 0, 1) := by decide +kernel
theorem dX2_place_34 : decode cX2_place 34 = .ok (.iconst 0, 1) := by decide +kernel
theorem dX2_place_35 : decode cX2_place 35 = .ok (.iconst 0, 1) := by decide +kernel
theorem dX2_place_36 : decode cX2_place 36 = .ok (.invokevirtual 35, 3) := by decide +kernel
theorem dX2_place_39 : decode cX2_place 39 = .ok (.aload_n 2, 1) := by decide +kernel
theorem dX2_place_40 : decode cX2_place 40 = .ok (.iconst 0, 1) := by decide +kernel
theorem dX2_place_41 : decode cX2_place 41 = .ok (.iconst 3, 1) := by decide +kernel
theorem dX2_place_42 : decode cX2_place 42 = .ok (.invokevirtual 39, 3) := by decide +kernel
theorem dX2_place_45 : decode cX2_place 45 = .ok (.istore_n 3, 1) := by decide +kernel
theorem dX2_place_46 : decode cX2_place 46 = .ok (.iconst 0, 1) := by decide +kernel
theorem dX2_place_47 : decode cX2_place 47 = .ok (.istore 4, 2) := by decide +kernel
theorem dX2_place_49 : decode cX2_place 49 = .ok (.iload 4, 2) := by decide +kernel
theorem dX2_place_51 : decode cX2_place 51 = .ok (.aload_n 1, 1) := by decide +kernel
theorem dX2_place_52 : decode cX2_place 52 = .ok (.getfield 32, 3) := by decide +kernel
theorem dX2_place_55 : decode cX2_place 55 = .ok (.if_icmp .ge 37, 3) := by decide +kernel
theorem dX2_place_58 : decode cX2_place 58 = .ok (.aload_n 1, 1) := by decide +kernel
theorem dX2_place_59 : decode cX2_place 59 = .ok (.iload 4, 2) := by decide +kernel
theorem dX2_place_61 : decode cX2_place 61 = .ok (.invokevirtual 45, 3) := by decide +kernel
theorem dX2_place_64 : decode cX2_place 64 = .ok (.ifCond .eq 22, 3) := by decide +kernel
theorem dX2_place_67 : decode cX2_place 67 = .ok (.aload_n 0, 1) := by decide +kernel
theorem dX2_place_68 : decode cX2_place 68 = .ok (.getfield 9, 3) := by decide +kernel
theorem dX2_place_71 : decode cX2_place 71 = .ok (.iload 4, 2) := by decide +kernel
theorem dX2_place_73 : decode cX2_place 73 = .ok (.baload, 1) := by decide +kernel
theorem dX2_place_74 : decode cX2_place 74 = .ok (.ifCond .eq 12, 3) := by decide +kernel
theorem dX2_place_77 : decode cX2_place 77 = .ok (.aload_n 0, 1) := by decide +kernel
theorem dX2_place_78 : decode cX2_place 78 = .ok (.aload_n 1, 1) := by decide +kernel
theorem dX2_place_79 : decode cX2_place 79 = .ok (.aload_n 2, 1) := by decide +kernel
theorem dX2_place_80 : decode cX2_place 80 = .ok (.iload 4, 2) := by decide +kernel
theorem dX2_place_82 : decode cX2_place 82 = .ok (.iload_n 3, 1) := by decide +kernel
theorem dX2_place_83 : decode cX2_place 83 = .ok (.invokevirtual 49, 3) := by decide +kernel
theorem dX2_place_86 : decode cX2_place 86 = .ok (.iinc 4 1, 3) := by decide +kernel
theorem dX2_place_89 : decode cX2_place 89 = .ok (.goto (-40), 3) := by decide +kernel
theorem dX2_place_92 : decode cX2_place 92 = .ok (.return_, 1) := by decide +kernel
theorem dX2_putAt_0 : decode cX2_putAt 0 = .ok (.iload_n 1, 1) := by decide +kernel
theorem dX2_putAt_1 : decode cX2_putAt 1 = .ok (.ifCond .lt 40, 3) := by decide +kernel
theorem dX2_putAt_4 : decode cX2_putAt 4 = .ok (.iload_n 1, 1) := by decide +kernel
theorem dX2_putAt_5 : decode cX2_putAt 5 = .ok (.aload_n 0, 1) := by decide +kernel
theorem dX2_putAt_6 : decode cX2_putAt 6 = .ok (.getfield 9, 3) := by decide +kernel
theorem dX2_putAt_9 : decode cX2_putAt 9 = .ok (.arraylength, 1) := by decide +kernel
theorem dX2_putAt_10 : decode cX2_putAt 10 = .ok (.if_icmp .ge 31, 3) := by decide +kernel
theorem dX2_putAt_13 : decode cX2_putAt 13 = .ok (.aload_n 0, 1) := by decide +kernel
theorem dX2_putAt_14 : decode cX2_putAt 14 = .ok (.getfield 9, 3) := by decide +kernel
theorem dX2_putAt_17 : decode cX2_putAt 17 = .ok (.iload_n 1, 1) := by decide +kernel
theorem dX2_putAt_18 : decode cX2_putAt 18 = .ok (.iconst 1, 1) := by decide +kernel
theorem dX2_putAt_19 : decode cX2_putAt 19 = .ok (.bastore, 1) := by decide +kernel
theorem dX2_putAt_20 : decode cX2_putAt 20 = .ok (.aload_n 0, 1) := by decide +kernel
theorem dX2_putAt_21 : decode cX2_putAt 21 = .ok (.getfield 15, 3) := by decide +kernel
theorem dX2_putAt_24 : decode cX2_putAt 24 = .ok (.iload_n 1, 1) := by decide +kernel
theorem dX2_putAt_25 : decode cX2_putAt 25 = .ok (.iload_n 2, 1) := by decide +kernel
theorem dX2_putAt_26 : decode cX2_putAt 26 = .ok (.iastore, 1) := by decide +kernel
theorem dX2_putAt_27 : decode cX2_putAt 27 = .ok (.aload_n 0, 1) := by decide +kernel
theorem dX2_putAt_28 : decode cX2_putAt 28 = .ok (.getfield 19, 3) := by decide +kernel
theorem dX2_putAt_31 : decode cX2_putAt 31 = .ok (.iload_n 1, 1) := by decide +kernel
theorem dX2_putAt_32 : decode cX2_putAt 32 = .ok (.iload_n 3, 1) := by decide +kernel
theorem dX2_putAt_33 : decode cX2_putAt 33 = .ok (.iastore, 1) := by decide +kernel
theorem dX2_putAt_34 : decode cX2_putAt 34 = .ok (.aload_n 0, 1) := by decide +kernel
theorem dX2_putAt_35 : decode cX2_putAt 35 = .ok (.getfield 22, 3) := by decide +kernel
theorem dX2_putAt_38 : decode cX2_putAt 38 = .ok (.iload_n 1, 1) := by decide +kernel
theorem dX2_putAt_39 : decode cX2_putAt 39 = .ok (.iconst 0, 1) := by decide +kernel
theorem dX2_putAt_40 : decode cX2_putAt 40 = .ok (.iastore, 1) := by decide +kernel
theorem dX2_putAt_41 : decode cX2_putAt 41 = .ok (.return_, 1) := by decide +kernel
theorem dX2_placeBelow_0 : decode cX2_placeBelow 0 = .ok (.aload_n 1, 1) := by decide +kernel
theorem dX2_placeBelow_1 : decode cX2_placeBelow 1 = .ok (.getfield 53, 3) := by decide +kernel
theorem dX2_placeBelow_4 : decode cX2_placeBelow 4 = .ok (.iload_n 3, 1) := by decide +kernel
theorem dX2_placeBelow_5 : decode cX2_placeBelow 5 = .ok (.iaload, 1) := by decide +kernel
theorem dX2_placeBelow_6 : decode cX2_placeBelow 6 = .ok (.istore 5, 2) := by decide +kernel
theorem dX2_placeBelow_8 : decode cX2_placeBelow 8 = .ok (.aload_n 1, 1) := by decide +kernel
theorem dX2_placeBelow_9 : decode cX2_placeBelow 9 = .ok (.getfield 56, 3) := by decide +kernel
theorem dX2_placeBelow_12 : decode cX2_placeBelow 12 = .ok (.iload_n 3, 1) := by decide +kernel
theorem dX2_placeBelow_13 : decode cX2_placeBelow 13 = .ok (.iaload, 1) := by decide +kernel
theorem dX2_placeBelow_14 : decode cX2_placeBelow 14 = .ok (.istore 6, 2) := by decide +kernel
theorem dX2_placeBelow_16 : decode cX2_placeBelow 16 = .ok (.aload_n 1, 1) := by decide +kernel
theorem dX2_placeBelow_17 : decode cX2_placeBelow 17 = .ok (.getfield 59, 3) := by decide +kernel
theorem dX2_placeBelow_20 : decode cX2_placeBelow 20 = .ok (.iload_n 3, 1) := by decide +kernel
theorem dX2_placeBelow_21 : decode cX2_placeBelow 21 = .ok (.iaload, 1) := by decide +kernel
theorem dX2_placeBelow_22 : decode cX2_placeBelow 22 = .ok (.tableswitch 238 0 4 #[34, 66, 123, 170, 210], 34) := by decide +kernel
theorem dX2_placeBelow_56 : decode cX2_placeBelow 56 = .ok (.aload_n 0, 1) := by decide +kernel
theorem dX2_placeBelow_57 : decode cX2_placeBelow 57 = .ok (.getfield 22, 3) := by decide +kernel
theorem dX2_placeBelow_60 : decode cX2_placeBelow 60 = .ok (.iload_n 3, 1) := by decide +kernel
theorem dX2_placeBelow_61 : decode cX2_placeBelow 61 = .ok (.aload_n 1, 1) := by decide +kernel
theorem dX2_placeBelow_62 : decode cX2_placeBelow 62 = .ok (.getfield 62, 3) := by decide +kernel
theorem dX2_placeBelow_65 : decode cX2_placeBelow 65 = .ok (.iload_n 3, 1) := by decide +kernel
theorem dX2_placeBelow_66 : decode cX2_placeBelow 66 = .ok (.iaload, 1) := by decide +kernel
theorem dX2_placeBelow_67 : decode cX2_placeBelow 67 = .ok (.iastore, 1) := by decide +kernel
theorem dX2_placeBelow_68 : decode cX2_placeBelow 68 = .ok (.aload_n 0, 1) := by decide +kernel
theorem dX2_placeBelow_69 : decode cX2_placeBelow 69 = .ok (.getfield 25, 3) := by decide +kernel
theorem dX2_placeBelow_72 : decode cX2_placeBelow 72 = .ok (.iload_n 3, 1) := by decide +kernel
theorem dX2_placeBelow_73 : decode cX2_placeBelow 73 = .ok (.aload_n 1, 1) := by decide +kernel
theorem dX2_placeBelow_74 : decode cX2_placeBelow 74 = .ok (.getfield 62, 3) := by decide +kernel
theorem dX2_placeBelow_77 : decode cX2_placeBelow 77 = .ok (.iload_n 3, 1) := by decide +kernel
theorem dX2_placeBelow_78 : decode cX2_placeBelow 78 = .ok (.iaload, 1) := by decide +kernel
theorem dX2_placeBelow_79 : decode cX2_placeBelow 79 = .ok (.bipush 97, 2) := by decide +kernel
theorem dX2_placeBelow_81 : decode cX2_placeBelow 81 = .ok (.iadd, 1) := by decide +kernel
theorem dX2_placeBelow_82 : decode cX2_placeBelow 82 = .ok (.iconst 1, 1) := by decide +kernel
theorem dX2_placeBelow_83 : decode cX2_placeBelow 83 = .ok (.isub, 1) := by decide +kernel
theorem dX2_placeBelow_84 : decode cX2_placeBelow 84 = .ok (.iastore, 1) := by decide +kernel
theorem dX2_placeBelow_85 : decode cX2_placeBelow 85 = .ok (.goto 193, 3) := by decide +kernel
theorem dX2_placeBelow_88 : decode cX2_placeBelow 88 = .ok (.aload_n 0, 1) := by decide +kernel
theorem dX2_placeBelow_89 : decode cX2_placeBelow 89 = .ok (.iload 5, 2) := by decide +kernel
theorem dX2_placeBelow_91 : decode cX2_placeBelow 91 = .ok (.aload_n 0, 1) := by decide +kernel
theorem dX2_placeBelow_92 : decode cX2_placeBelow 92 = .ok (.getfield 15, 3) := by decide +kernel
theorem dX2_placeBelow_95 : decode cX2_placeBelow 95 = .ok (.iload_n 3, 1) := by decide +kernel
theorem dX2_placeBelow_96 : decode cX2_placeBelow 96 = .ok (.iaload, 1) := by decide +kernel
theorem dX2_placeBelow_97 : decode cX2_placeBelow 97 = .ok (.aload_n 0, 1) := by decide +kernel
theorem dX2_placeBelow_98 : decode cX2_placeBelow 98 = .ok (.getfield 19, 3) := by decide +kernel
theorem dX2_placeBelow_101 : decode cX2_placeBelow 101 = .ok (.iload_n 3, 1) := by decide +kernel
theorem dX2_placeBelow_102 : decode cX2_placeBelow 102 = .ok (.iaload, 1) := by decide +kernel
theorem dX2_placeBelow_103 : decode cX2_placeBelow 103 = .ok (.invokevirtual 35, 3) := by decide +kernel
theorem dX2_placeBelow_106 : decode cX2_placeBelow 106 = .ok (.aload_n 0, 1) := by decide +kernel
theorem dX2_placeBelow_107 : decode cX2_placeBelow 107 = .ok (.iload 6, 2) := by decide +kernel
theorem dX2_placeBelow_109 : decode cX2_placeBelow 109 = .ok (.aload_n 0, 1) := by decide +kernel
theorem dX2_placeBelow_110 : decode cX2_placeBelow 110 = .ok (.getfield 15, 3) := by decide +kernel
theorem dX2_placeBelow_113 : decode cX2_placeBelow 113 = .ok (.iload_n 3, 1) := by decide +kernel
theorem dX2_placeBelow_114 : decode cX2_placeBelow 114 = .ok (.iaload, 1) := by decide +kernel
theorem dX2_placeBelow_115 : decode cX2_placeBelow 115 = .ok (.aload_n 2, 1) := by decide +kernel
theorem dX2_placeBelow_116 : decode cX2_placeBelow 116 = .ok (.iload 5, 2) := by decide +kernel
theorem dX2_placeBelow_118 : decode cX2_placeBelow 118 = .ok (.iconst 0, 1) := by decide +kernel
theorem dX2_placeBelow_119 : decode cX2_placeBelow 119 = .ok (.invokevirtual 39, 3) := by decide +kernel
theorem dX2_placeBelow_122 : decode cX2_placeBelow 122 = .ok (.iadd, 1) := by decide +kernel
theorem dX2_placeBelow_123 : decode cX2_placeBelow 123 = .ok (.iconst 1, 1) := by decide +kernel
theorem dX2_placeBelow_124 : decode cX2_placeBelow 124 = .ok (.isub, 1) := by decide +kernel
theorem dX2_placeBelow_125 : decode cX2_placeBelow 125 = .ok (.aload_n 0, 1) := by decide +kernel
theorem dX2_placeBelow_126 : decode cX2_placeBelow 126 = .ok (.getfield 19, 3) := by decide +kernel
theorem dX2_placeBelow_129 : decode cX2_placeBelow 129 = .ok (.iload_n 3, 1) := by decide +kernel
theorem dX2_placeBelow_130 : decode cX2_placeBelow 130 = .ok (.iaload, 1) := by decide +kernel
theorem dX2_placeBelow_131 : decode cX2_placeBelow 131 = .ok (.aload_n 2, 1) := by decide +kernel
theorem dX2_placeBelow_132 : decode cX2_placeBelow 132 = .ok (.iload 5, 2) := by decide +kernel
theorem dX2_placeBelow_134 : decode cX2_placeBelow 134 = .ok (.iconst 1, 1) := by decide +kernel
theorem dX2_placeBelow_135 : decode cX2_placeBelow 135 = .ok (.invokevirtual 39, 3) := by decide +kernel
theorem dX2_placeBelow_138 : decode cX2_placeBelow 138 = .ok (.iadd, 1) := by decide +kernel
theorem dX2_placeBelow_139 : decode cX2_placeBelow 139 = .ok (.invokevirtual 35, 3) := by decide +kernel
theorem dX2_placeBelow_142 : decode cX2_placeBelow 142 = .ok (.goto 136, 3) := by decide +kernel
theorem dX2_placeBelow_145 : decode cX2_placeBelow 145 = .ok (.aload_n 0, 1) := by decide +kernel
theorem dX2_placeBelow_146 : decode cX2_placeBelow 146 = .ok (.iload 5, 2) := by decide +kernel
theorem dX2_placeBelow_148 : decode cX2_placeBelow 148 = .ok (.aload_n 0, 1) := by decide +kernel
theorem dX2_placeBelow_149 : decode cX2_placeBelow 149 = .ok (.getfield 15, 3) := by decide +kernel
theorem dX2_placeBelow_152 : decode cX2_placeBelow 152 = .ok (.iload_n 3, 1) := by decide +kernel
theorem dX2_placeBelow_153 : decode cX2_placeBelow 153 = .ok (.iaload, 1) := by decide +kernel
theorem dX2_placeBelow_154 : decode cX2_placeBelow 154 = .ok (.aload_n 0, 1) := by decide +kernel
theorem dX2_placeBelow_155 : decode cX2_placeBelow 155 = .ok (.getfield 19, 3) := by decide +kernel
theorem dX2_placeBelow_158 : decode cX2_placeBelow 158 = .ok (.iload_n 3, 1) := by decide +kernel
theorem dX2_placeBelow_159 : decode cX2_placeBelow 159 = .ok (.iaload, 1) := by decide +kernel
theorem dX2_placeBelow_160 : decode cX2_placeBelow 160 = .ok (.invokevirtual 35, 3) := by decide +kernel
theorem dX2_placeBelow_163 : decode cX2_placeBelow 163 = .ok (.aload_n 0, 1) := by decide +kernel
theorem dX2_placeBelow_164 : decode cX2_placeBelow 164 = .ok (.iload 6, 2) := by decide +kernel
theorem dX2_placeBelow_166 : decode cX2_placeBelow 166 = .ok (.aload_n 0, 1) := by decide +kernel
theorem dX2_placeBelow_167 : decode cX2_placeBelow 167 = .ok (.getfield 15, 3) := by decide +kernel
theorem dX2_placeBelow_170 : decode cX2_placeBelow 170 = .ok (.iload_n 3, 1) := by decide +kernel
theorem dX2_placeBelow_171 : decode cX2_placeBelow 171 = .ok (.iaload, 1) := by decide +kernel
theorem dX2_placeBelow_172 : decode cX2_placeBelow 172 = .ok (.aload_n 2, 1) := by decide +kernel
theorem dX2_placeBelow_173 : decode cX2_placeBelow 173 = .ok (.iload 5, 2) := by decide +kernel
theorem dX2_placeBelow_175 : decode cX2_placeBelow 175 = .ok (.iconst 0, 1) := by decide +kernel
theorem dX2_placeBelow_176 : decode cX2_placeBelow 176 = .ok (.invokevirtual 39, 3) := by decide +kernel
theorem dX2_placeBelow_179 : decode cX2_placeBelow 179 = .ok (.iadd, 1) := by decide +kernel
theorem dX2_placeBelow_180 : decode cX2_placeBelow 180 = .ok (.aload_n 0, 1) := by decide +kernel
theorem dX2_placeBelow_181 : decode cX2_placeBelow 181 = .ok (.getfield 19, 3) := by decide +kernel
theorem dX2_placeBelow_184 : decode cX2_placeBelow 184 = .ok (.iload_n 3, 1) := by decide +kernel
theorem dX2_placeBelow_185 : decode cX2_placeBelow 185 = .ok (.iaload, 1) := by decide +kernel
theorem dX2_placeBelow_186 : decode cX2_placeBelow 186 = .ok (.invokevirtual 35, 3) := by decide +kernel
theorem dX2_placeBelow_189 : decode cX2_placeBelow 189 = .ok (.goto 89, 3) := by decide +kernel
theorem dX2_placeBelow_192 : decode cX2_placeBelow 192 = .ok (.aload_n 0, 1) := by decide +kernel
theorem dX2_placeBelow_193 : decode cX2_placeBelow 193 = .ok (.iload 4, 2) := by decide +kernel
theorem dX2_placeBelow_195 : decode cX2_placeBelow 195 = .ok (.iconst 1, 1) := by decide +kernel
theorem dX2_placeBelow_196 : decode cX2_placeBelow 196 = .ok (.aload_n 1, 1) := by decide +kernel
theorem dX2_placeBelow_197 : decode cX2_placeBelow 197 = .ok (.getfield 62, 3) := by decide +kernel
theorem dX2_placeBelow_200 : decode cX2_placeBelow 200 = .ok (.iload_n 3, 1) := by decide +kernel
theorem dX2_placeBelow_201 : decode cX2_placeBelow 201 = .ok (.iaload, 1) := by decide +kernel
theorem dX2_placeBelow_202 : decode cX2_placeBelow 202 = .ok (.ishl, 1) := by decide +kernel
theorem dX2_placeBelow_203 : decode cX2_placeBelow 203 = .ok (.iand, 1) := by decide +kernel
theorem dX2_placeBelow_204 : decode cX2_placeBelow 204 = .ok (.ifCond .ne 8, 3) := by decide +kernel
theorem dX2_placeBelow_207 : decode cX2_placeBelow 207 = .ok (.iload 5, 2) := by decide +kernel
theorem dX2_placeBelow_209 : decode cX2_placeBelow 209 = .ok (.goto 5, 3) := by decide +kernel
theorem dX2_placeBelow_212 : decode cX2_placeBelow 212 = .ok (.iload 6, 2) := by decide +kernel
theorem dX2_placeBelow_214 : decode cX2_placeBelow 214 = .ok (.aload_n 0, 1) := by decide +kernel
theorem dX2_placeBelow_215 : decode cX2_placeBelow 215 = .ok (.getfield 15, 3) := by decide +kernel
theorem dX2_placeBelow_218 : decode cX2_placeBelow 218 = .ok (.iload_n 3, 1) := by decide +kernel
theorem dX2_placeBelow_219 : decode cX2_placeBelow 219 = .ok (.iaload, 1) := by decide +kernel
theorem dX2_placeBelow_220 : decode cX2_placeBelow 220 = .ok (.aload_n 0, 1) := by decide +kernel
theorem dX2_placeBelow_221 : decode cX2_placeBelow 221 = .ok (.getfield 19, 3) := by decide +kernel
theorem dX2_placeBelow_224 : decode cX2_placeBelow 224 = .ok (.iload_n 3, 1) := by decide +kernel
theorem dX2_placeBelow_225 : decode cX2_placeBelow 225 = .ok (.iaload, 1) := by decide +kernel
theorem dX2_placeBelow_226 : decode cX2_placeBelow 226 = .ok (.invokevirtual 35, 3) := by decide +kernel
theorem dX2_placeBelow_229 : decode cX2_placeBelow 229 = .ok (.goto 49, 3) := by decide +kernel
theorem dX2_placeBelow_232 : decode cX2_placeBelow 232 = .ok (.aload_n 0, 1) := by decide +kernel
theorem dX2_placeBelow_233 : decode cX2_placeBelow 233 = .ok (.iload 5, 2) := by decide +kernel
theorem dX2_placeBelow_235 : decode cX2_placeBelow 235 = .ok (.aload_n 0, 1) := by decide +kernel
theorem dX2_placeBelow_236 : decode cX2_placeBelow 236 = .ok (.getfield 15, 3) := by decide +kernel
theorem dX2_placeBelow_239 : decode cX2_placeBelow 239 = .ok (.iload_n 3, 1) := by decide +kernel
theorem dX2_placeBelow_240 : decode cX2_placeBelow 240 = .ok (.iaload, 1) := by decide +kernel
theorem dX2_placeBelow_241 : decode cX2_placeBelow 241 = .ok (.aload_n 0, 1) := by decide +kernel
theorem dX2_placeBelow_242 : decode cX2_placeBelow 242 = .ok (.getfield 19, 3) := by decide +kernel
theorem dX2_placeBelow_245 : decode cX2_placeBelow 245 = .ok (.iload_n 3, 1) := by decide +kernel
theorem dX2_placeBelow_246 : decode cX2_placeBelow 246 = .ok (.iaload, 1) := by decide +kernel
theorem dX2_placeBelow_247 : decode cX2_placeBelow 247 = .ok (.aload_n 1, 1) := by decide +kernel
theorem dX2_placeBelow_248 : decode cX2_placeBelow 248 = .ok (.getfield 62, 3) := by decide +kernel
theorem dX2_placeBelow_251 : decode cX2_placeBelow 251 = .ok (.iload_n 3, 1) := by decide +kernel
theorem dX2_placeBelow_252 : decode cX2_placeBelow 252 = .ok (.iaload, 1) := by decide +kernel
theorem dX2_placeBelow_253 : decode cX2_placeBelow 253 = .ok (.iadd, 1) := by decide +kernel
theorem dX2_placeBelow_254 : decode cX2_placeBelow 254 = .ok (.invokevirtual 35, 3) := by decide +kernel
theorem dX2_placeBelow_257 : decode cX2_placeBelow 257 = .ok (.goto 21, 3) := by decide +kernel
theorem dX2_placeBelow_260 : decode cX2_placeBelow 260 = .ok (.aload_n 0, 1) := by decide +kernel
theorem dX2_placeBelow_261 : decode cX2_placeBelow 261 = .ok (.iload 5, 2) := by decide +kernel
theorem dX2_placeBelow_263 : decode cX2_placeBelow 263 = .ok (.aload_n 0, 1) := by decide +kernel
theorem dX2_placeBelow_264 : decode cX2_placeBelow 264 = .ok (.getfield 15, 3) := by decide +kernel
theorem dX2_placeBelow_267 : decode cX2_placeBelow 267 = .ok (.iload_n 3, 1) := by decide +kernel
theorem dX2_placeBelow_268 : decode cX2_placeBelow 268 = .ok (.iaload, 1) := by decide +kernel
theorem dX2_placeBelow_269 : decode cX2_placeBelow 269 = .ok (.aload_n 0, 1) := by decide +kernel
theorem dX2_placeBelow_270 : decode cX2_placeBelow 270 = .ok (.getfield 19, 3) := by decide +kernel
theorem dX2_placeBelow_273 : decode cX2_placeBelow 273 = .ok (.iload_n 3, 1) := by decide +kernel
theorem dX2_placeBelow_274 : decode cX2_placeBelow 274 = .ok (.iaload, 1) := by decide +kernel
theorem dX2_placeBelow_275 : decode cX2_placeBelow 275 = .ok (.invokevirtual 35, 3) := by decide +kernel
theorem dX2_placeBelow_278 : decode cX2_placeBelow 278 = .ok (.return_, 1) := by decide +kernel
theorem dX2_isWordOn_0 : decode cX2_isWordOn 0 = .ok (.aload_n 0, 1) := by decide +kernel
theorem dX2_isWordOn_1 : decode cX2_isWordOn 1 = .ok (.getfield 9, 3) := by decide +kernel
theorem dX2_isWordOn_4 : decode cX2_isWordOn 4 = .ok (.iload_n 1, 1) := by decide +kernel
theorem dX2_isWordOn_5 : decode cX2_isWordOn 5 = .ok (.baload, 1) := by decide +kernel
theorem dX2_isWordOn_6 : decode cX2_isWordOn 6 = .ok (.ifCond .eq 26, 3) := by decide +kernel
theorem dX2_isWordOn_9 : decode cX2_isWordOn 9 = .ok (.aload_n 0, 1) := by decide +kernel
theorem dX2_isWordOn_10 : decode cX2_isWordOn 10 = .ok (.getfield 22, 3) := by decide +kernel
theorem dX2_isWordOn_13 : decode cX2_isWordOn 13 = .ok (.iload_n 1, 1) := by decide +kernel
theorem dX2_isWordOn_14 : decode cX2_isWordOn 14 = .ok (.iaload, 1) := by decide +kernel
theorem dX2_isWordOn_15 : decode cX2_isWordOn 15 = .ok (.ifCond .le 17, 3) := by decide +kernel
theorem dX2_isWordOn_18 : decode cX2_isWordOn 18 = .ok (.aload_n 0, 1) := by decide +kernel
theorem dX2_isWordOn_19 : decode cX2_isWordOn 19 = .ok (.getfield 15, 3) := by decide +kernel
theorem dX2_isWordOn_22 : decode cX2_isWordOn 22 = .ok (.iload_n 1, 1) := by decide +kernel
theorem dX2_isWordOn_23 : decode cX2_isWordOn 23 = .ok (.iaload, 1) := by decide +kernel
theorem dX2_isWordOn_24 : decode cX2_isWordOn 24 = .ok (.iload_n 2, 1) := by decide +kernel
theorem dX2_isWordOn_25 : decode cX2_isWordOn 25 = .ok (.if_icmp .ne 7, 3) := by decide +kernel
theorem dX2_isWordOn_28 : decode cX2_isWordOn 28 = .ok (.iconst 1, 1) := by decide +kernel
theorem dX2_isWordOn_29 : decode cX2_isWordOn 29 = .ok (.goto 4, 3) := by decide +kernel
theorem dX2_isWordOn_32 : decode cX2_isWordOn 32 = .ok (.iconst 0, 1) := by decide +kernel
theorem dX2_isWordOn_33 : decode cX2_isWordOn 33 = .ok (.ireturn, 1) := by decide +kernel
theorem dX2_columnsOf_0 : decode cX2_columnsOf 0 = .ok (.iconst (-1), 1) := by decide +kernel
theorem dX2_columnsOf_1 : decode cX2_columnsOf 1 = .ok (.istore_n 2, 1) := by decide +kernel
theorem dX2_columnsOf_2 : decode cX2_columnsOf 2 = .ok (.iconst 0, 1) := by decide +kernel
theorem dX2_columnsOf_3 : decode cX2_columnsOf 3 = .ok (.istore_n 3, 1) := by decide +kernel
theorem dX2_columnsOf_4 : decode cX2_columnsOf 4 = .ok (.iload_n 3, 1) := by decide +kernel
theorem dX2_columnsOf_5 : decode cX2_columnsOf 5 = .ok (.aload_n 0, 1) := by decide +kernel
theorem dX2_columnsOf_6 : decode cX2_columnsOf 6 = .ok (.getfield 28, 3) := by decide +kernel
theorem dX2_columnsOf_9 : decode cX2_columnsOf 9 = .ok (.if_icmp .ge 45, 3) := by decide +kernel
theorem dX2_columnsOf_12 : decode cX2_columnsOf 12 = .ok (.iload_n 3, 1) := by decide +kernel
theorem dX2_columnsOf_13 : decode cX2_columnsOf 13 = .ok (.aload_n 0, 1) := by decide +kernel
theorem dX2_columnsOf_14 : decode cX2_columnsOf 14 = .ok (.getfield 9, 3) := by decide +kernel
theorem dX2_columnsOf_17 : decode cX2_columnsOf 17 = .ok (.arraylength, 1) := by decide +kernel
theorem dX2_columnsOf_18 : decode cX2_columnsOf 18 = .ok (.if_icmp .ge 36, 3) := by decide +kernel
theorem dX2_columnsOf_21 : decode cX2_columnsOf 21 = .ok (.aload_n 0, 1) := by decide +kernel
theorem dX2_columnsOf_22 : decode cX2_columnsOf 22 = .ok (.iload_n 3, 1) := by decide +kernel
theorem dX2_columnsOf_23 : decode cX2_columnsOf 23 = .ok (.iload_n 1, 1) := by decide +kernel
theorem dX2_columnsOf_24 : decode cX2_columnsOf 24 = .ok (.invokevirtual 65, 3) := by decide +kernel
theorem dX2_columnsOf_27 : decode cX2_columnsOf 27 = .ok (.ifCond .eq 21, 3) := by decide +kernel
theorem dX2_columnsOf_30 : decode cX2_columnsOf 30 = .ok (.iload_n 2, 1) := by decide +kernel
theorem dX2_columnsOf_31 : decode cX2_columnsOf 31 = .ok (.aload_n 0, 1) := by decide +kernel
theorem dX2_columnsOf_32 : decode cX2_columnsOf 32 = .ok (.getfield 19, 3) := by decide +kernel
theorem dX2_columnsOf_35 : decode cX2_columnsOf 35 = .ok (.iload_n 3, 1) := by decide +kernel
theorem dX2_columnsOf_36 : decode cX2_columnsOf 36 = .ok (.iaload, 1) := by decide +kernel
theorem dX2_columnsOf_37 : decode cX2_columnsOf 37 = .ok (.aload_n 0, 1) := by decide +kernel
theorem dX2_columnsOf_38 : decode cX2_columnsOf 38 = .ok (.getfield 22, 3) := by decide +kernel
theorem dX2_columnsOf_41 : decode cX2_columnsOf 41 = .ok (.iload_n 3, 1) := by decide +kernel
theorem dX2_columnsOf_42 : decode cX2_columnsOf 42 = .ok (.iaload, 1) := by decide +kernel
theorem dX2_columnsOf_43 : decode cX2_columnsOf 43 = .ok (.iadd, 1) := by decide +kernel
theorem dX2_columnsOf_44 : decode cX2_columnsOf 44 = .ok (.invokestatic 69, 3) := by decide +kernel
theorem dX2_columnsOf_47 : decode cX2_columnsOf 47 = .ok (.istore_n 2, 1) := by decide +kernel
theorem dX2_columnsOf_48 : decode cX2_columnsOf 48 = .ok (.iinc 3 1, 3) := by decide +kernel
theorem dX2_columnsOf_51 : decode cX2_columnsOf 51 = .ok (.goto (-47), 3) := by decide +kernel
theorem dX2_columnsOf_54 : decode cX2_columnsOf 54 = .ok (.iload_n 2, 1) := by decide +kernel
theorem dX2_columnsOf_55 : decode cX2_columnsOf 55 = .ok (.ireturn, 1) := by decide +kernel
theorem dX2_byteAt_0 : decode cX2_byteAt 0 = .ok (.iconst 0, 1) := by decide +kernel
theorem dX2_byteAt_1 : decode cX2_byteAt 1 = .ok (.istore_n 3, 1) := by decide +kernel
theorem dX2_byteAt_2 : decode cX2_byteAt 2 = .ok (.iload_n 3, 1) := by decide +kernel
theorem dX2_byteAt_3 : decode cX2_byteAt 3 = .ok (.aload_n 0, 1) := by decide +kernel
theorem dX2_byteAt_4 : decode cX2_byteAt 4 = .ok (.getfield 28, 3) := by decide +kernel
theorem dX2_byteAt_7 : decode cX2_byteAt 7 = .ok (.if_icmp .ge 73, 3) := by decide +kernel
theorem dX2_byteAt_10 : decode cX2_byteAt 10 = .ok (.iload_n 3, 1) := by decide +kernel
theorem dX2_byteAt_11 : decode cX2_byteAt 11 = .ok (.aload_n 0, 1) := by decide +kernel
theorem dX2_byteAt_12 : decode cX2_byteAt 12 = .ok (.getfield 9, 3) := by decide +kernel
theorem dX2_byteAt_15 : decode cX2_byteAt 15 = .ok (.arraylength, 1) := by decide +kernel
theorem dX2_byteAt_16 : decode cX2_byteAt 16 = .ok (.if_icmp .ge 64, 3) := by decide +kernel
theorem dX2_byteAt_19 : decode cX2_byteAt 19 = .ok (.iload_n 2, 1) := by decide +kernel
theorem dX2_byteAt_20 : decode cX2_byteAt 20 = .ok (.aload_n 0, 1) := by decide +kernel
theorem dX2_byteAt_21 : decode cX2_byteAt 21 = .ok (.getfield 19, 3) := by decide +kernel
theorem dX2_byteAt_24 : decode cX2_byteAt 24 = .ok (.iload_n 3, 1) := by decide +kernel
theorem dX2_byteAt_25 : decode cX2_byteAt 25 = .ok (.iaload, 1) := by decide +kernel
theorem dX2_byteAt_26 : decode cX2_byteAt 26 = .ok (.if_icmp .lt 24, 3) := by decide +kernel
theorem dX2_byteAt_29 : decode cX2_byteAt 29 = .ok (.iload_n 2, 1) := by decide +kernel
theorem dX2_byteAt_30 : decode cX2_byteAt 30 = .ok (.aload_n 0, 1) := by decide +kernel
theorem dX2_byteAt_31 : decode cX2_byteAt 31 = .ok (.getfield 19, 3) := by decide +kernel
theorem dX2_byteAt_34 : decode cX2_byteAt 34 = .ok (.iload_n 3, 1) := by decide +kernel
theorem dX2_byteAt_35 : decode cX2_byteAt 35 = .ok (.iaload, 1) := by decide +kernel
theorem dX2_byteAt_36 : decode cX2_byteAt 36 = .ok (.aload_n 0, 1) := by decide +kernel
theorem dX2_byteAt_37 : decode cX2_byteAt 37 = .ok (.getfield 22, 3) := by decide +kernel
theorem dX2_byteAt_40 : decode cX2_byteAt 40 = .ok (.iload_n 3, 1) := by decide +kernel
theorem dX2_byteAt_41 : decode cX2_byteAt 41 = .ok (.iaload, 1) := by decide +kernel
theorem dX2_byteAt_42 : decode cX2_byteAt 42 = .ok (.iadd, 1) := by decide +kernel
theorem dX2_byteAt_43 : decode cX2_byteAt 43 = .ok (.if_icmp .ge 7, 3) := by decide +kernel
theorem dX2_byteAt_46 : decode cX2_byteAt 46 = .ok (.iconst 1, 1) := by decide +kernel
theorem dX2_byteAt_47 : decode cX2_byteAt 47 = .ok (.goto 4, 3) := by decide +kernel
theorem dX2_byteAt_50 : decode cX2_byteAt 50 = .ok (.iconst 0, 1) := by decide +kernel
theorem dX2_byteAt_51 : decode cX2_byteAt 51 = .ok (.istore 4, 2) := by decide +kernel
theorem dX2_byteAt_53 : decode cX2_byteAt 53 = .ok (.iload 4, 2) := by decide +kernel
theorem dX2_byteAt_55 : decode cX2_byteAt 55 = .ok (.ifCond .eq 19, 3) := by decide +kernel
theorem dX2_byteAt_58 : decode cX2_byteAt 58 = .ok (.aload_n 0, 1) := by decide +kernel
theorem dX2_byteAt_59 : decode cX2_byteAt 59 = .ok (.iload_n 3, 1) := by decide +kernel
theorem dX2_byteAt_60 : decode cX2_byteAt 60 = .ok (.iload_n 1, 1) := by decide +kernel
theorem dX2_byteAt_61 : decode cX2_byteAt 61 = .ok (.invokevirtual 65, 3) := by decide +kernel
theorem dX2_byteAt_64 : decode cX2_byteAt 64 = .ok (.ifCond .eq 10, 3) := by decide +kernel
theorem dX2_byteAt_67 : decode cX2_byteAt 67 = .ok (.aload_n 0, 1) := by decide +kernel
theorem dX2_byteAt_68 : decode cX2_byteAt 68 = .ok (.getfield 25, 3) := by decide +kernel
theorem dX2_byteAt_71 : decode cX2_byteAt 71 = .ok (.iload_n 3, 1) := by decide +kernel
theorem dX2_byteAt_72 : decode cX2_byteAt 72 = .ok (.iaload, 1) := by decide +kernel
theorem dX2_byteAt_73 : decode cX2_byteAt 73 = .ok (.ireturn, 1) := by decide +kernel
theorem dX2_byteAt_74 : decode cX2_byteAt 74 = .ok (.iinc 3 1, 3) := by decide +kernel
theorem dX2_byteAt_77 : decode cX2_byteAt 77 = .ok (.goto (-75), 3) := by decide +kernel
theorem dX2_byteAt_80 : decode cX2_byteAt 80 = .ok (.iload_n 2, 1) := by decide +kernel
theorem dX2_byteAt_81 : decode cX2_byteAt 81 = .ok (.aload_n 0, 1) := by decide +kernel
theorem dX2_byteAt_82 : decode cX2_byteAt 82 = .ok (.iload_n 1, 1) := by decide +kernel
theorem dX2_byteAt_83 : decode cX2_byteAt 83 = .ok (.invokevirtual 74, 3) := by decide +kernel
theorem dX2_byteAt_86 : decode cX2_byteAt 86 = .ok (.if_icmp .ge 8, 3) := by decide +kernel
theorem dX2_byteAt_89 : decode cX2_byteAt 89 = .ok (.bipush 32, 2) := by decide +kernel
theorem dX2_byteAt_91 : decode cX2_byteAt 91 = .ok (.goto 4, 3) := by decide +kernel
theorem dX2_byteAt_94 : decode cX2_byteAt 94 = .ok (.iconst (-1), 1) := by decide +kernel
theorem dX2_byteAt_95 : decode cX2_byteAt 95 = .ok (.ireturn, 1) := by decide +kernel
end
section
theorem dX3_init_0 : decode cX3_init 0 = .ok (.aload_n 0, 1) := by decide +kernel
theorem dX3_init_1 : decode cX3_init 1 = .ok (.invokespecial 3, 3) := by decide +kernel
theorem dX3_init_4 : decode cX3_init 4 = .ok (.iconst 0, 1) := by decide +kernel
theorem dX3_init_5 : decode cX3_init 5 = .ok (.iload_n 1, 1) := by decide +kernel
theorem dX3_init_6 : decode cX3_init 6 = .ok (.invokestatic 9, 3) := by decide +kernel
theorem dX3_init_9 : decode cX3_init 9 = .ok (.istore_n 2, 1) := by decide +kernel
theorem dX3_init_10 : decode cX3_init 10 = .ok (.aload_n 0, 1) := by decide +kernel
theorem dX3_init_11 : decode cX3_init 11 = .ok (.iload_n 2, 1) := by decide +kernel
theorem dX3_init_12 : decode cX3_init 12 = .ok (.newarray .int, 2) := by decide +kernel
theorem dX3_init_14 : decode cX3_init 14 = .ok (.putfield 15, 3) := by decide +kernel
theorem dX3_init_17 : decode cX3_init 17 = .ok (.aload_n 0, 1) := by decide +kernel
theorem dX3_init_18 : decode cX3_init 18 = .ok (.iload_n 2, 1) := by decide +kernel
theorem dX3_init_19 : decode cX3_init 19 = .ok (.newarray .int, 2) := by decide +kernel
theorem dX3_init_21 : decode cX3_init 21 = .ok (.putfield 21, 3) := by decide +kernel
theorem dX3_init_24 : decode cX3_init 24 = .ok (.aload_n 0, 1) := by decide +kernel
theorem dX3_init_25 : decode cX3_init 25 = .ok (.iload_n 2, 1) := by decide +kernel
theorem dX3_init_26 : decode cX3_init 26 = .ok (.newarray .int, 2) := by decide +kernel
theorem dX3_init_28 : decode cX3_init 28 = .ok (.putfield 24, 3) := by decide +kernel
theorem dX3_init_31 : decode cX3_init 31 = .ok (.aload_n 0, 1) := by decide +kernel
theorem dX3_init_32 : decode cX3_init 32 = .ok (.iload_n 2, 1) := by decide +kernel
theorem dX3_init_33 : decode cX3_init 33 = .ok (.newarray .int, 2) := by decide +kernel
theorem dX3_init_35 : decode cX3_init 35 = .ok (.putfield 27, 3) := by decide +kernel
theorem dX3_init_38 : decode cX3_init 38 = .ok (.return_, 1) := by decide +kernel
theorem dX3_has_0 : decode cX3_has 0 = .ok (.iload_n 1, 1) := by decide +kernel
theorem dX3_has_1 : decode cX3_has 1 = .ok (.ifCond .lt 16, 3) := by decide +kernel
theorem dX3_has_4 : decode cX3_has 4 = .ok (.iload_n 1, 1) := by decide +kernel
theorem dX3_has_5 : decode cX3_has 5 = .ok (.aload_n 0, 1) := by decide +kernel
theorem dX3_has_6 : decode cX3_has 6 = .ok (.getfield 15, 3) := by decide +kernel
theorem dX3_has_9 : decode cX3_has 9 = .ok (.arraylength, 1) := by decide +kernel
theorem dX3_has_10 : decode cX3_has 10 = .ok (.if_icmp .ge 7, 3) := by decide +kernel
theorem dX3_has_13 : decode cX3_has 13 = .ok (.iconst 1, 1) := by decide +kernel
theorem dX3_has_14 : decode cX3_has 14 = .ok (.goto 4, 3) := by decide +kernel
theorem dX3_has_17 : decode cX3_has 17 = .ok (.iconst 0, 1) := by decide +kernel
theorem dX3_has_18 : decode cX3_has 18 = .ok (.ireturn, 1) := by decide +kernel
theorem dX3_set_0 : decode cX3_set 0 = .ok (.iload_n 1, 1) := by decide +kernel
theorem dX3_set_1 : decode cX3_set 1 = .ok (.ifCond .lt 42, 3) := by decide +kernel
theorem dX3_set_4 : decode cX3_set 4 = .ok (.iload_n 1, 1) := by decide +kernel
theorem dX3_set_5 : decode cX3_set 5 = .ok (.aload_n 0, 1) := by decide +kernel
theorem dX3_set_6 : decode cX3_set 6 = .ok (.getfield 15, 3) := by decide +kernel
theorem dX3_set_9 : decode cX3_set 9 = .ok (.arraylength, 1) := by decide +kernel
theorem dX3_set_10 : decode cX3_set 10 = .ok (.if_icmp .ge 33, 3) := by decide +kernel
theorem dX3_set_13 : decode cX3_set 13 = .ok (.aload_n 0, 1) := by decide +kernel
theorem dX3_set_14 : decode cX3_set 14 = .ok (.getfield 15, 3) := by decide +kernel
theorem dX3_set_17 : decode cX3_set 17 = .ok (.iload_n 1, 1) := by decide +kernel
theorem dX3_set_18 : decode cX3_set 18 = .ok (.iload_n 2, 1) := by decide +kernel
theorem dX3_set_19 : decode cX3_set 19 = .ok (.iastore, 1) := by decide +kernel
theorem dX3_set_20 : decode cX3_set 20 = .ok (.aload_n 0, 1) := by decide +kernel
theorem dX3_set_21 : decode cX3_set 21 = .ok (.getfield 21, 3) := by decide +kernel
theorem dX3_set_24 : decode cX3_set 24 = .ok (.iload_n 1, 1) := by decide +kernel
theorem dX3_set_25 : decode cX3_set 25 = .ok (.iload_n 3, 1) := by decide +kernel
theorem dX3_set_26 : decode cX3_set 26 = .ok (.iastore, 1) := by decide +kernel
theorem dX3_set_27 : decode cX3_set 27 = .ok (.aload_n 0, 1) := by decide +kernel
theorem dX3_set_28 : decode cX3_set 28 = .ok (.getfield 24, 3) := by decide +kernel
theorem dX3_set_31 : decode cX3_set 31 = .ok (.iload_n 1, 1) := by decide +kernel
theorem dX3_set_32 : decode cX3_set 32 = .ok (.iload 4, 2) := by decide +kernel
theorem dX3_set_34 : decode cX3_set 34 = .ok (.iastore, 1) := by decide +kernel
theorem dX3_set_35 : decode cX3_set 35 = .ok (.aload_n 0, 1) := by decide +kernel
theorem dX3_set_36 : decode cX3_set 36 = .ok (.getfield 27, 3) := by decide +kernel
theorem dX3_set_39 : decode cX3_set 39 = .ok (.iload_n 1, 1) := by decide +kernel
theorem dX3_set_40 : decode cX3_set 40 = .ok (.iload 5, 2) := by decide +kernel
theorem dX3_set_42 : decode cX3_set 42 = .ok (.iastore, 1) := by decide +kernel
theorem dX3_set_43 : decode cX3_set 43 = .ok (.return_, 1) := by decide +kernel
theorem dX3_setWord_0 : decode cX3_setWord 0 = .ok (.aload_n 0, 1) := by decide +kernel
theorem dX3_setWord_1 : decode cX3_setWord 1 = .ok (.iload_n 1, 1) := by decide +kernel
theorem dX3_setWord_2 : decode cX3_setWord 2 = .ok (.iconst 1, 1) := by decide +kernel
theorem dX3_setWord_3 : decode cX3_setWord 3 = .ok (.iload_n 2, 1) := by decide +kernel
theorem dX3_setWord_4 : decode cX3_setWord 4 = .ok (.iload_n 2, 1) := by decide +kernel
theorem dX3_setWord_5 : decode cX3_setWord 5 = .ok (.iconst 0, 1) := by decide +kernel
theorem dX3_setWord_6 : decode cX3_setWord 6 = .ok (.invokevirtual 30, 3) := by decide +kernel
theorem dX3_setWord_9 : decode cX3_setWord 9 = .ok (.return_, 1) := by decide +kernel
theorem dX3_setLike_0 : decode cX3_setLike 0 = .ok (.aload_n 0, 1) := by decide +kernel
theorem dX3_setLike_1 : decode cX3_setLike 1 = .ok (.iload_n 2, 1) := by decide +kernel
theorem dX3_setLike_2 : decode cX3_setLike 2 = .ok (.invokevirtual 34, 3) := by decide +kernel
theorem dX3_setLike_5 : decode cX3_setLike 5 = .ok (.ifCond .eq 34, 3) := by decide +kernel
theorem dX3_setLike_8 : decode cX3_setLike 8 = .ok (.aload_n 0, 1) := by decide +kernel
theorem dX3_setLike_9 : decode cX3_setLike 9 = .ok (.iload_n 1, 1) := by decide +kernel
theorem dX3_setLike_10 : decode cX3_setLike 10 = .ok (.aload_n 0, 1) := by decide +kernel
theorem dX3_setLike_11 : decode cX3_setLike 11 = .ok (.getfield 15, 3) := by decide +kernel
theorem dX3_setLike_14 : decode cX3_setLike 14 = .ok (.iload_n 2, 1) := by decide +kernel
theorem dX3_setLike_15 : decode cX3_setLike 15 = .ok (.iaload, 1) := by decide +kernel
theorem dX3_setLike_16 : decode cX3_setLike 16 = .ok (.aload_n 0, 1) := by decide +kernel
theorem dX3_setLike_17 : decode cX3_setLike 17 = .ok (.getfield 21, 3) := by decide +kernel
theorem dX3_setLike_20 : decode cX3_setLike 20 = .ok (.iload_n 2, 1) := by decide +kernel
theorem dX3_setLike_21 : decode cX3_setLike 21 = .ok (.iaload, 1) := by decide +kernel
theorem dX3_setLike_22 : decode cX3_setLike 22 = .ok (.aload_n 0, 1) := by decide +kernel
theorem dX3_setLike_23 : decode cX3_setLike 23 = .ok (.getfield 24, 3) := by decide +kernel
theorem dX3_setLike_26 : decode cX3_setLike 26 = .ok (.iload_n 2, 1) := by decide +kernel
theorem dX3_setLike_27 : decode cX3_setLike 27 = .ok (.iaload, 1) := by decide +kernel
theorem dX3_setLike_28 : decode cX3_setLike 28 = .ok (.aload_n 0, 1) := by decide +kernel
theorem dX3_setLike_29 : decode cX3_setLike 29 = .ok (.getfield 27, 3) := by decide +kernel
theorem dX3_setLike_32 : decode cX3_setLike 32 = .ok (.iload_n 2, 1) := by decide +kernel
theorem dX3_setLike_33 : decode cX3_setLike 33 = .ok (.iaload, 1) := by decide +kernel
theorem dX3_setLike_34 : decode cX3_setLike 34 = .ok (.iload_n 3, 1) := by decide +kernel
theorem dX3_setLike_35 : decode cX3_setLike 35 = .ok (.ior, 1) := by decide +kernel
theorem dX3_setLike_36 : decode cX3_setLike 36 = .ok (.invokevirtual 30, 3) := by decide +kernel
theorem dX3_setLike_39 : decode cX3_setLike 39 = .ok (.return_, 1) := by decide +kernel
theorem dX3_setMade_0 : decode cX3_setMade 0 = .ok (.aload_n 0, 1) := by decide +kernel
theorem dX3_setMade_1 : decode cX3_setMade 1 = .ok (.iload 4, 2) := by decide +kernel
theorem dX3_setMade_3 : decode cX3_setMade 3 = .ok (.invokevirtual 34, 3) := by decide +kernel
theorem dX3_setMade_6 : decode cX3_setMade 6 = .ok (.ifCond .eq 12, 3) := by decide +kernel
theorem dX3_setMade_9 : decode cX3_setMade 9 = .ok (.aload_n 0, 1) := by decide +kernel
theorem dX3_setMade_10 : decode cX3_setMade 10 = .ok (.iload 5, 2) := by decide +kernel
theorem dX3_setMade_12 : decode cX3_setMade 12 = .ok (.invokevirtual 34, 3) := by decide +kernel
theorem dX3_setMade_15 : decode cX3_setMade 15 = .ok (.ifCond .ne 4, 3) := by decide +kernel
theorem dX3_setMade_18 : decode cX3_setMade 18 = .ok (.return_, 1) := by decide +kernel
theorem dX3_setMade_19 : decode cX3_setMade 19 = .ok (.iload_n 2, 1) := by decide +kernel
theorem dX3_setMade_20 : decode cX3_setMade 20 = .ok (.lookupswitch 170 #[(1, 28), (2, 108)], 28) := by decide +kernel
theorem dX3_setMade_48 : decode cX3_setMade 48 = .ok (.aload_n 0, 1) := by decide +kernel
theorem dX3_setMade_49 : decode cX3_setMade 49 = .ok (.iload_n 1, 1) := by decide +kernel
theorem dX3_setMade_50 : decode cX3_setMade 50 = .ok (.aload_n 0, 1) := by decide +kernel
theorem dX3_setMade_51 : decode cX3_setMade 51 = .ok (.getfield 15, 3) := by decide +kernel
theorem dX3_setMade_54 : decode cX3_setMade 54 = .ok (.iload 4, 2) := by decide +kernel
theorem dX3_setMade_56 : decode cX3_setMade 56 = .ok (.iaload, 1) := by decide +kernel
theorem dX3_setMade_57 : decode cX3_setMade 57 = .ok (.aload_n 0, 1) := by decide +kernel
theorem dX3_setMade_58 : decode cX3_setMade 58 = .ok (.getfield 15, 3) := by decide +kernel
theorem dX3_setMade_61 : decode cX3_setMade 61 = .ok (.iload 5, 2) := by decide +kernel
theorem dX3_setMade_63 : decode cX3_setMade 63 = .ok (.iaload, 1) := by decide +kernel
theorem dX3_setMade_64 : decode cX3_setMade 64 = .ok (.iadd, 1) := by decide +kernel
theorem dX3_setMade_65 : decode cX3_setMade 65 = .ok (.iconst 1, 1) := by decide +kernel
theorem dX3_setMade_66 : decode cX3_setMade 66 = .ok (.isub, 1) := by decide +kernel
theorem dX3_setMade_67 : decode cX3_setMade 67 = .ok (.aload_n 0, 1) := by decide +kernel
theorem dX3_setMade_68 : decode cX3_setMade 68 = .ok (.getfield 21, 3) := by decide +kernel
theorem dX3_setMade_71 : decode cX3_setMade 71 = .ok (.iload 4, 2) := by decide +kernel
theorem dX3_setMade_73 : decode cX3_setMade 73 = .ok (.iaload, 1) := by decide +kernel
theorem dX3_setMade_74 : decode cX3_setMade 74 = .ok (.aload_n 0, 1) := by decide +kernel
theorem dX3_setMade_75 : decode cX3_setMade 75 = .ok (.getfield 21, 3) := by decide +kernel
theorem dX3_setMade_78 : decode cX3_setMade 78 = .ok (.iload 5, 2) := by decide +kernel
theorem dX3_setMade_80 : decode cX3_setMade 80 = .ok (.iaload, 1) := by decide +kernel
theorem dX3_setMade_81 : decode cX3_setMade 81 = .ok (.iadd, 1) := by decide +kernel
theorem dX3_setMade_82 : decode cX3_setMade 82 = .ok (.aload_n 0, 1) := by decide +kernel
theorem dX3_setMade_83 : decode cX3_setMade 83 = .ok (.getfield 24, 3) := by decide +kernel
theorem dX3_setMade_86 : decode cX3_setMade 86 = .ok (.iload 4, 2) := by decide +kernel
theorem dX3_setMade_88 : decode cX3_setMade 88 = .ok (.iaload, 1) := by decide +kernel
theorem dX3_setMade_89 : decode cX3_setMade 89 = .ok (.aload_n 0, 1) := by decide +kernel
theorem dX3_setMade_90 : decode cX3_setMade 90 = .ok (.getfield 21, 3) := by decide +kernel
theorem dX3_setMade_93 : decode cX3_setMade 93 = .ok (.iload 4, 2) := by decide +kernel
theorem dX3_setMade_95 : decode cX3_setMade 95 = .ok (.iaload, 1) := by decide +kernel
theorem dX3_setMade_96 : decode cX3_setMade 96 = .ok (.aload_n 0, 1) := by decide +kernel
theorem dX3_setMade_97 : decode cX3_setMade 97 = .ok (.getfield 24, 3) := by decide +kernel
theorem dX3_setMade_100 : decode cX3_setMade 100 = .ok (.iload 5, 2) := by decide +kernel
theorem dX3_setMade_102 : decode cX3_setMade 102 = .ok (.iaload, 1) := by decide +kernel
theorem dX3_setMade_103 : decode cX3_setMade 103 = .ok (.iadd, 1) := by decide +kernel
theorem dX3_setMade_104 : decode cX3_setMade 104 = .ok (.invokestatic 9, 3) := by decide +kernel
theorem dX3_setMade_107 : decode cX3_setMade 107 = .ok (.aload_n 0, 1) := by decide +kernel
theorem dX3_setMade_108 : decode cX3_setMade 108 = .ok (.getfield 27, 3) := by decide +kernel
theorem dX3_setMade_111 : decode cX3_setMade 111 = .ok (.iload 4, 2) := by decide +kernel
theorem dX3_setMade_113 : decode cX3_setMade 113 = .ok (.iaload, 1) := by decide +kernel
theorem dX3_setMade_114 : decode cX3_setMade 114 = .ok (.aload_n 0, 1) := by decide +kernel
theorem dX3_setMade_115 : decode cX3_setMade 115 = .ok (.getfield 27, 3) := by decide +kernel
theorem dX3_setMade_118 : decode cX3_setMade 118 = .ok (.iload 5, 2) := by decide +kernel
theorem dX3_setMade_120 : decode cX3_setMade 120 = .ok (.iaload, 1) := by decide +kernel
theorem dX3_setMade_121 : decode cX3_setMade 121 = .ok (.ior, 1) := by decide +kernel
theorem dX3_setMade_122 : decode cX3_setMade 122 = .ok (.invokevirtual 30, 3) := by decide +kernel
theorem dX3_setMade_125 : decode cX3_setMade 125 = .ok (.goto 102, 3) := by decide +kernel
theorem dX3_setMade_128 : decode cX3_setMade 128 = .ok (.aload_n 0, 1) := by decide +kernel
theorem dX3_setMade_129 : decode cX3_setMade 129 = .ok (.iload_n 1, 1) := by decide +kernel
theorem dX3_setMade_130 : decode cX3_setMade 130 = .ok (.aload_n 0, 1) := by decide +kernel
theorem dX3_setMade_131 : decode cX3_setMade 131 = .ok (.getfield 15, 3) := by decide +kernel
theorem dX3_setMade_134 : decode cX3_setMade 134 = .ok (.iload 4, 2) := by decide +kernel
theorem dX3_setMade_136 : decode cX3_setMade 136 = .ok (.iaload, 1) := by decide +kernel
theorem dX3_setMade_137 : decode cX3_setMade 137 = .ok (.aload_n 0, 1) := by decide +kernel
theorem dX3_setMade_138 : decode cX3_setMade 138 = .ok (.getfield 15, 3) := by decide +kernel
theorem dX3_setMade_141 : decode cX3_setMade 141 = .ok (.iload 5, 2) := by decide +kernel
theorem dX3_setMade_143 : decode cX3_setMade 143 = .ok (.iaload, 1) := by decide +kernel
theorem dX3_setMade_144 : decode cX3_setMade 144 = .ok (.iadd, 1) := by decide +kernel
theorem dX3_setMade_145 : decode cX3_setMade 145 = .ok (.aload_n 0, 1) := by decide +kernel
theorem dX3_setMade_146 : decode cX3_setMade 146 = .ok (.getfield 21, 3) := by decide +kernel
theorem dX3_setMade_149 : decode cX3_setMade 149 = .ok (.iload 5, 2) := by decide +kernel
theorem dX3_setMade_151 : decode cX3_setMade 151 = .ok (.iaload, 1) := by decide +kernel
theorem dX3_setMade_152 : decode cX3_setMade 152 = .ok (.aload_n 0, 1) := by decide +kernel
theorem dX3_setMade_153 : decode cX3_setMade 153 = .ok (.getfield 24, 3) := by decide +kernel
theorem dX3_setMade_156 : decode cX3_setMade 156 = .ok (.iload 4, 2) := by decide +kernel
theorem dX3_setMade_158 : decode cX3_setMade 158 = .ok (.iaload, 1) := by decide +kernel
theorem dX3_setMade_159 : decode cX3_setMade 159 = .ok (.aload_n 0, 1) := by decide +kernel
theorem dX3_setMade_160 : decode cX3_setMade 160 = .ok (.getfield 24, 3) := by decide +kernel
theorem dX3_setMade_163 : decode cX3_setMade 163 = .ok (.iload 5, 2) := by decide +kernel
theorem dX3_setMade_165 : decode cX3_setMade 165 = .ok (.iaload, 1) := by decide +kernel
theorem dX3_setMade_166 : decode cX3_setMade 166 = .ok (.invokestatic 9, 3) := by decide +kernel
theorem dX3_setMade_169 : decode cX3_setMade 169 = .ok (.aload_n 0, 1) := by decide +kernel
theorem dX3_setMade_170 : decode cX3_setMade 170 = .ok (.getfield 27, 3) := by decide +kernel
theorem dX3_setMade_173 : decode cX3_setMade 173 = .ok (.iload 4, 2) := by decide +kernel
theorem dX3_setMade_175 : decode cX3_setMade 175 = .ok (.iaload, 1) := by decide +kernel
theorem dX3_setMade_176 : decode cX3_setMade 176 = .ok (.aload_n 0, 1) := by decide +kernel
theorem dX3_setMade_177 : decode cX3_setMade 177 = .ok (.getfield 27, 3) := by decide +kernel
theorem dX3_setMade_180 : decode cX3_setMade 180 = .ok (.iload 5, 2) := by decide +kernel
theorem dX3_setMade_182 : decode cX3_setMade 182 = .ok (.iaload, 1) := by decide +kernel
theorem dX3_setMade_183 : decode cX3_setMade 183 = .ok (.ior, 1) := by decide +kernel
theorem dX3_setMade_184 : decode cX3_setMade 184 = .ok (.invokevirtual 30, 3) := by decide +kernel
theorem dX3_setMade_187 : decode cX3_setMade 187 = .ok (.goto 40, 3) := by decide +kernel
theorem dX3_setMade_190 : decode cX3_setMade 190 = .ok (.aload_n 0, 1) := by decide +kernel
theorem dX3_setMade_191 : decode cX3_setMade 191 = .ok (.iload_n 1, 1) := by decide +kernel
theorem dX3_setMade_192 : decode cX3_setMade 192 = .ok (.aload_n 0, 1) := by decide +kernel
theorem dX3_setMade_193 : decode cX3_setMade 193 = .ok (.getfield 15, 3) := by decide +kernel
theorem dX3_setMade_196 : decode cX3_setMade 196 = .ok (.iload 4, 2) := by decide +kernel
theorem dX3_setMade_198 : decode cX3_setMade 198 = .ok (.iaload, 1) := by decide +kernel
theorem dX3_setMade_199 : decode cX3_setMade 199 = .ok (.aload_n 0, 1) := by decide +kernel
theorem dX3_setMade_200 : decode cX3_setMade 200 = .ok (.getfield 21, 3) := by decide +kernel
theorem dX3_setMade_203 : decode cX3_setMade 203 = .ok (.iload 4, 2) := by decide +kernel
theorem dX3_setMade_205 : decode cX3_setMade 205 = .ok (.iaload, 1) := by decide +kernel
theorem dX3_setMade_206 : decode cX3_setMade 206 = .ok (.iload_n 3, 1) := by decide +kernel
theorem dX3_setMade_207 : decode cX3_setMade 207 = .ok (.iadd, 1) := by decide +kernel
theorem dX3_setMade_208 : decode cX3_setMade 208 = .ok (.aload_n 0, 1) := by decide +kernel
theorem dX3_setMade_209 : decode cX3_setMade 209 = .ok (.getfield 24, 3) := by decide +kernel
theorem dX3_setMade_212 : decode cX3_setMade 212 = .ok (.iload 4, 2) := by decide +kernel
theorem dX3_setMade_214 : decode cX3_setMade 214 = .ok (.iaload, 1) := by decide +kernel
theorem dX3_setMade_215 : decode cX3_setMade 215 = .ok (.iload_n 3, 1) := by decide +kernel
theorem dX3_setMade_216 : decode cX3_setMade 216 = .ok (.iadd, 1) := by decide +kernel
theorem dX3_setMade_217 : decode cX3_setMade 217 = .ok (.aload_n 0, 1) := by decide +kernel
theorem dX3_setMade_218 : decode cX3_setMade 218 = .ok (.getfield 27, 3) := by decide +kernel
theorem dX3_setMade_221 : decode cX3_setMade 221 = .ok (.iload 4, 2) := by decide +kernel
theorem dX3_setMade_223 : decode cX3_setMade 223 = .ok (.iaload, 1) := by decide +kernel
theorem dX3_setMade_224 : decode cX3_setMade 224 = .ok (.invokevirtual 30, 3) := by decide +kernel
theorem dX3_setMade_227 : decode cX3_setMade 227 = .ok (.return_, 1) := by decide +kernel
theorem dX3_noneGreater_0 : decode cX3_noneGreater 0 = .ok (.iload_n 1, 1) := by decide +kernel
theorem dX3_noneGreater_1 : decode cX3_noneGreater 1 = .ok (.ifCond .lt 25, 3) := by decide +kernel
theorem dX3_noneGreater_4 : decode cX3_noneGreater 4 = .ok (.iload_n 1, 1) := by decide +kernel
theorem dX3_noneGreater_5 : decode cX3_noneGreater 5 = .ok (.aload_n 0, 1) := by decide +kernel
theorem dX3_noneGreater_6 : decode cX3_noneGreater 6 = .ok (.getfield 15, 3) := by decide +kernel
theorem dX3_noneGreater_9 : decode cX3_noneGreater 9 = .ok (.arraylength, 1) := by decide +kernel
theorem dX3_noneGreater_10 : decode cX3_noneGreater 10 = .ok (.if_icmp .ge 16, 3) := by decide +kernel
theorem dX3_noneGreater_13 : decode cX3_noneGreater 13 = .ok (.iload_n 2, 1) := by decide +kernel
theorem dX3_noneGreater_14 : decode cX3_noneGreater 14 = .ok (.ifCond .lt 12, 3) := by decide +kernel
theorem dX3_noneGreater_17 : decode cX3_noneGreater 17 = .ok (.iload_n 2, 1) := by decide +kernel
theorem dX3_noneGreater_18 : decode cX3_noneGreater 18 = .ok (.aload_n 0, 1) := by decide +kernel
theorem dX3_noneGreater_19 : decode cX3_noneGreater 19 = .ok (.getfield 15, 3) := by decide +kernel
theorem dX3_noneGreater_22 : decode cX3_noneGreater 22 = .ok (.arraylength, 1) := by decide +kernel
theorem dX3_noneGreater_23 : decode cX3_noneGreater 23 = .ok (.if_icmp .lt 5, 3) := by decide +kernel
theorem dX3_noneGreater_26 : decode cX3_noneGreater 26 = .ok (.iconst 0, 1) := by decide +kernel
theorem dX3_noneGreater_27 : decode cX3_noneGreater 27 = .ok (.ireturn, 1) := by decide +kernel
theorem dX3_noneGreater_28 : decode cX3_noneGreater 28 = .ok (.aload_n 0, 1) := by decide +kernel
theorem dX3_noneGreater_29 : decode cX3_noneGreater 29 = .ok (.getfield 15, 3) := by decide +kernel
theorem dX3_noneGreater_32 : decode cX3_noneGreater 32 = .ok (.iload_n 1, 1) := by decide +kernel
theorem dX3_noneGreater_33 : decode cX3_noneGreater 33 = .ok (.iaload, 1) := by decide +kernel
theorem dX3_noneGreater_34 : decode cX3_noneGreater 34 = .ok (.aload_n 0, 1) := by decide +kernel
theorem dX3_noneGreater_35 : decode cX3_noneGreater 35 = .ok (.getfield 15, 3) := by decide +kernel
theorem dX3_noneGreater_38 : decode cX3_noneGreater 38 = .ok (.iload_n 2, 1) := by decide +kernel
theorem dX3_noneGreater_39 : decode cX3_noneGreater 39 = .ok (.iaload, 1) := by decide +kernel
theorem dX3_noneGreater_40 : decode cX3_noneGreater 40 = .ok (.if_icmp .gt 37, 3) := by decide +kernel
theorem dX3_noneGreater_43 : decode cX3_noneGreater 43 = .ok (.aload_n 0, 1) := by decide +kernel
theorem dX3_noneGreater_44 : decode cX3_noneGreater 44 = .ok (.getfield 21, 3) := by decide +kernel
theorem dX3_noneGreater_47 : decode cX3_noneGreater 47 = .ok (.iload_n 1, 1) := by decide +kernel
theorem dX3_noneGreater_48 : decode cX3_noneGreater 48 = .ok (.iaload, 1) := by decide +kernel
theorem dX3_noneGreater_49 : decode cX3_noneGreater 49 = .ok (.aload_n 0, 1) := by decide +kernel
theorem dX3_noneGreater_50 : decode cX3_noneGreater 50 = .ok (.getfield 21, 3) := by decide +kernel
theorem dX3_noneGreater_53 : decode cX3_noneGreater 53 = .ok (.iload_n 2, 1) := by decide +kernel
theorem dX3_noneGreater_54 : decode cX3_noneGreater 54 = .ok (.iaload, 1) := by decide +kernel
theorem dX3_noneGreater_55 : decode cX3_noneGreater 55 = .ok (.if_icmp .gt 22, 3) := by decide +kernel
theorem dX3_noneGreater_58 : decode cX3_noneGreater 58 = .ok (.aload_n 0, 1) := by decide +kernel
theorem dX3_noneGreater_59 : decode cX3_noneGreater 59 = .ok (.getfield 24, 3) := by decide +kernel
theorem dX3_noneGreater_62 : decode cX3_noneGreater 62 = .ok (.iload_n 1, 1) := by decide +kernel
theorem dX3_noneGreater_63 : decode cX3_noneGreater 63 = .ok (.iaload, 1) := by decide +kernel
theorem dX3_noneGreater_64 : decode cX3_noneGreater 64 = .ok (.aload_n 0, 1) := by decide +kernel
theorem dX3_noneGreater_65 : decode cX3_noneGreater 65 = .ok (.getfield 24, 3) := by decide +kernel
theorem dX3_noneGreater_68 : decode cX3_noneGreater 68 = .ok (.iload_n 2, 1) := by decide +kernel
theorem dX3_noneGreater_69 : decode cX3_noneGreater 69 = .ok (.iaload, 1) := by decide +kernel
theorem dX3_noneGreater_70 : decode cX3_noneGreater 70 = .ok (.if_icmp .gt 7, 3) := by decide +kernel
theorem dX3_noneGreater_73 : decode cX3_noneGreater 73 = .ok (.iconst 1, 1) := by decide +kernel
theorem dX3_noneGreater_74 : decode cX3_noneGreater 74 = .ok (.goto 4, 3) := by decide +kernel
theorem dX3_noneGreater_77 : decode cX3_noneGreater 77 = .ok (.iconst 0, 1) := by decide +kernel
theorem dX3_noneGreater_78 : decode cX3_noneGreater 78 = .ok (.ireturn, 1) := by decide +kernel
theorem dX3_fewerLines_0 : decode cX3_fewerLines 0 = .ok (.aload_n 0, 1) := by decide +kernel
theorem dX3_fewerLines_1 : decode cX3_fewerLines 1 = .ok (.iload_n 1, 1) := by decide +kernel
theorem dX3_fewerLines_2 : decode cX3_fewerLines 2 = .ok (.invokevirtual 34, 3) := by decide +kernel
theorem dX3_fewerLines_5 : decode cX3_fewerLines 5 = .ok (.ifCond .eq 11, 3) := by decide +kernel
theorem dX3_fewerLines_8 : decode cX3_fewerLines 8 = .ok (.aload_n 0, 1) := by decide +kernel
theorem dX3_fewerLines_9 : decode cX3_fewerLines 9 = .ok (.iload_n 2, 1) := by decide +kernel
theorem dX3_fewerLines_10 : decode cX3_fewerLines 10 = .ok (.invokevirtual 34, 3) := by decide +kernel
theorem dX3_fewerLines_13 : decode cX3_fewerLines 13 = .ok (.ifCond .ne 5, 3) := by decide +kernel
theorem dX3_fewerLines_16 : decode cX3_fewerLines 16 = .ok (.iconst 0, 1) := by decide +kernel
theorem dX3_fewerLines_17 : decode cX3_fewerLines 17 = .ok (.ireturn, 1) := by decide +kernel
theorem dX3_fewerLines_18 : decode cX3_fewerLines 18 = .ok (.aload_n 0, 1) := by decide +kernel
theorem dX3_fewerLines_19 : decode cX3_fewerLines 19 = .ok (.getfield 15, 3) := by decide +kernel
theorem dX3_fewerLines_22 : decode cX3_fewerLines 22 = .ok (.iload_n 1, 1) := by decide +kernel
theorem dX3_fewerLines_23 : decode cX3_fewerLines 23 = .ok (.iaload, 1) := by decide +kernel
theorem dX3_fewerLines_24 : decode cX3_fewerLines 24 = .ok (.aload_n 0, 1) := by decide +kernel
theorem dX3_fewerLines_25 : decode cX3_fewerLines 25 = .ok (.getfield 15, 3) := by decide +kernel
theorem dX3_fewerLines_28 : decode cX3_fewerLines 28 = .ok (.iload_n 2, 1) := by decide +kernel
theorem dX3_fewerLines_29 : decode cX3_fewerLines 29 = .ok (.iaload, 1) := by decide +kernel
theorem dX3_fewerLines_30 : decode cX3_fewerLines 30 = .ok (.if_icmp .eq 24, 3) := by decide +kernel
theorem dX3_fewerLines_33 : decode cX3_fewerLines 33 = .ok (.aload_n 0, 1) := by decide +kernel
theorem dX3_fewerLines_34 : decode cX3_fewerLines 34 = .ok (.getfield 15, 3) := by decide +kernel
theorem dX3_fewerLines_37 : decode cX3_fewerLines 37 = .ok (.iload_n 1, 1) := by decide +kernel
theorem dX3_fewerLines_38 : decode cX3_fewerLines 38 = .ok (.iaload, 1) := by decide +kernel
theorem dX3_fewerLines_39 : decode cX3_fewerLines 39 = .ok (.aload_n 0, 1) := by decide +kernel
theorem dX3_fewerLines_40 : decode cX3_fewerLines 40 = .ok (.getfield 15, 3) := by decide +kernel
theorem dX3_fewerLines_43 : decode cX3_fewerLines 43 = .ok (.iload_n 2, 1) := by decide +kernel
theorem dX3_fewerLines_44 : decode cX3_fewerLines 44 = .ok (.iaload, 1) := by decide +kernel
theorem dX3_fewerLines_45 : decode cX3_fewerLines 45 = .ok (.if_icmp .ge 7, 3) := by decide +kernel
theorem dX3_fewerLines_48 : decode cX3_fewerLines 48 = .ok (.iconst 1, 1) := by decide +kernel
theorem dX3_fewerLines_49 : decode cX3_fewerLines 49 = .ok (.goto 4, 3) := by decide +kernel
theorem dX3_fewerLines_52 : decode cX3_fewerLines 52 = .ok (.iconst 0, 1) := by decide +kernel
theorem dX3_fewerLines_53 : decode cX3_fewerLines 53 = .ok (.ireturn, 1) := by decide +kernel
theorem dX3_fewerLines_54 : decode cX3_fewerLines 54 = .ok (.aload_n 0, 1) := by decide +kernel
theorem dX3_fewerLines_55 : decode cX3_fewerLines 55 = .ok (.getfield 24, 3) := by decide +kernel
theorem dX3_fewerLines_58 : decode cX3_fewerLines 58 = .ok (.iload_n 1, 1) := by decide +kernel
theorem dX3_fewerLines_59 : decode cX3_fewerLines 59 = .ok (.iaload, 1) := by decide +kernel
theorem dX3_fewerLines_60 : decode cX3_fewerLines 60 = .ok (.aload_n 0, 1) := by decide +kernel
theorem dX3_fewerLines_61 : decode cX3_fewerLines 61 = .ok (.getfield 24, 3) := by decide +kernel
theorem dX3_fewerLines_64 : decode cX3_fewerLines 64 = .ok (.iload_n 2, 1) := by decide +kernel
theorem dX3_fewerLines_65 : decode cX3_fewerLines 65 = .ok (.iaload, 1) := by decide +kernel
theorem dX3_fewerLines_66 : decode cX3_fewerLines 66 = .ok (.if_icmp .eq 26, 3) := by decide +kernel
theorem dX3_fewerLines_69 : decode cX3_fewerLines 69 = .ok (.aload_n 0, 1) := by decide +kernel
theorem dX3_fewerLines_70 : decode cX3_fewerLines 70 = .ok (.getfield 24, 3) := by decide +kernel
theorem dX3_fewerLines_73 : decode cX3_fewerLines 73 = .ok (.iload_n 1, 1) := by decide +kernel
theorem dX3_fewerLines_74 : decode cX3_fewerLines 74 = .ok (.iaload, 1) := by decide +kernel
theorem dX3_fewerLines_75 : decode cX3_fewerLines 75 = .ok (.aload_n 0, 1) := by decide +kernel
theorem dX3_fewerLines_76 : decode cX3_fewerLines 76 = .ok (.getfield 24, 3) := by decide +kernel
theorem dX3_fewerLines_79 : decode cX3_fewerLines 79 = .ok (.iload_n 2, 1) := by decide +kernel
theorem dX3_fewerLines_80 : decode cX3_fewerLines 80 = .ok (.iaload, 1) := by decide +kernel
theorem dX3_fewerLines_81 : decode cX3_fewerLines 81 = .ok (.if_icmp .ge 7, 3) := by decide +kernel
theorem dX3_fewerLines_84 : decode cX3_fewerLines 84 = .ok (.iconst 1, 1) := by decide +kernel
theorem dX3_fewerLines_85 : decode cX3_fewerLines 85 = .ok (.goto 27, 3) := by decide +kernel
theorem dX3_fewerLines_88 : decode cX3_fewerLines 88 = .ok (.iconst 0, 1) := by decide +kernel
theorem dX3_fewerLines_89 : decode cX3_fewerLines 89 = .ok (.goto 23, 3) := by decide +kernel
theorem dX3_fewerLines_92 : decode cX3_fewerLines 92 = .ok (.aload_n 0, 1) := by decide +kernel
theorem dX3_fewerLines_93 : decode cX3_fewerLines 93 = .ok (.getfield 21, 3) := by decide +kernel
theorem dX3_fewerLines_96 : decode cX3_fewerLines 96 = .ok (.iload_n 1, 1) := by decide +kernel
theorem dX3_fewerLines_97 : decode cX3_fewerLines 97 = .ok (.iaload, 1) := by decide +kernel
theorem dX3_fewerLines_98 : decode cX3_fewerLines 98 = .ok (.aload_n 0, 1) := by decide +kernel
theorem dX3_fewerLines_99 : decode cX3_fewerLines 99 = .ok (.getfield 21, 3) := by decide +kernel
theorem dX3_fewerLines_102 : decode cX3_fewerLines 102 = .ok (.iload_n 2, 1) := by decide +kernel
theorem dX3_fewerLines_103 : decode cX3_fewerLines 103 = .ok (.iaload, 1) := by decide +kernel
theorem dX3_fewerLines_104 : decode cX3_fewerLines 104 = .ok (.if_icmp .ge 7, 3) := by decide +kernel
theorem dX3_fewerLines_107 : decode cX3_fewerLines 107 = .ok (.iconst 1, 1) := by decide +kernel
theorem dX3_fewerLines_108 : decode cX3_fewerLines 108 = .ok (.goto 4, 3) := by decide +kernel
theorem dX3_fewerLines_111 : decode cX3_fewerLines 111 = .ok (.iconst 0, 1) := by decide +kernel
theorem dX3_fewerLines_112 : decode cX3_fewerLines 112 = .ok (.ireturn, 1) := by decide +kernel
theorem dX3_lessMost_0 : decode cX3_lessMost 0 = .ok (.aload_n 0, 1) := by decide +kernel
theorem dX3_lessMost_1 : decode cX3_lessMost 1 = .ok (.iload_n 1, 1) := by decide +kernel
theorem dX3_lessMost_2 : decode cX3_lessMost 2 = .ok (.invokevirtual 34, 3) := by decide +kernel
theorem dX3_lessMost_5 : decode cX3_lessMost 5 = .ok (.ifCond .eq 11, 3) := by decide +kernel
theorem dX3_lessMost_8 : decode cX3_lessMost 8 = .ok (.aload_n 0, 1) := by decide +kernel
theorem dX3_lessMost_9 : decode cX3_lessMost 9 = .ok (.iload_n 2, 1) := by decide +kernel
theorem dX3_lessMost_10 : decode cX3_lessMost 10 = .ok (.invokevirtual 34, 3) := by decide +kernel
theorem dX3_lessMost_13 : decode cX3_lessMost 13 = .ok (.ifCond .ne 5, 3) := by decide +kernel
theorem dX3_lessMost_16 : decode cX3_lessMost 16 = .ok (.iconst 0, 1) := by decide +kernel
theorem dX3_lessMost_17 : decode cX3_lessMost 17 = .ok (.ireturn, 1) := by decide +kernel
theorem dX3_lessMost_18 : decode cX3_lessMost 18 = .ok (.aload_n 0, 1) := by decide +kernel
theorem dX3_lessMost_19 : decode cX3_lessMost 19 = .ok (.getfield 24, 3) := by decide +kernel
theorem dX3_lessMost_22 : decode cX3_lessMost 22 = .ok (.iload_n 1, 1) := by decide +kernel
theorem dX3_lessMost_23 : decode cX3_lessMost 23 = .ok (.iaload, 1) := by decide +kernel
theorem dX3_lessMost_24 : decode cX3_lessMost 24 = .ok (.aload_n 0, 1) := by decide +kernel
theorem dX3_lessMost_25 : decode cX3_lessMost 25 = .ok (.getfield 24, 3) := by decide +kernel
theorem dX3_lessMost_28 : decode cX3_lessMost 28 = .ok (.iload_n 2, 1) := by decide +kernel
theorem dX3_lessMost_29 : decode cX3_lessMost 29 = .ok (.iaload, 1) := by decide +kernel
theorem dX3_lessMost_30 : decode cX3_lessMost 30 = .ok (.if_icmp .eq 24, 3) := by decide +kernel
theorem dX3_lessMost_33 : decode cX3_lessMost 33 = .ok (.aload_n 0, 1) := by decide +kernel
theorem dX3_lessMost_34 : decode cX3_lessMost 34 = .ok (.getfield 24, 3) := by decide +kernel
theorem dX3_lessMost_37 : decode cX3_lessMost 37 = .ok (.iload_n 1, 1) := by decide +kernel
theorem dX3_lessMost_38 : decode cX3_lessMost 38 = .ok (.iaload, 1) := by decide +kernel
theorem dX3_lessMost_39 : decode cX3_lessMost 39 = .ok (.aload_n 0, 1) := by decide +kernel
theorem dX3_lessMost_40 : decode cX3_lessMost 40 = .ok (.getfield 24, 3) := by decide +kernel
theorem dX3_lessMost_43 : decode cX3_lessMost 43 = .ok (.iload_n 2, 1) := by decide +kernel
theorem dX3_lessMost_44 : decode cX3_lessMost 44 = .ok (.iaload, 1) := by decide +kernel
theorem dX3_lessMost_45 : decode cX3_lessMost 45 = .ok (.if_icmp .ge 7, 3) := by decide +kernel
theorem dX3_lessMost_48 : decode cX3_lessMost 48 = .ok (.iconst 1, 1) := by decide +kernel
theorem dX3_lessMost_49 : decode cX3_lessMost 49 = .ok (.goto 4, 3) := by decide +kernel
theorem dX3_lessMost_52 : decode cX3_lessMost 52 = .ok (.iconst 0, 1) := by decide +kernel
theorem dX3_lessMost_53 : decode cX3_lessMost 53 = .ok (.ireturn, 1) := by decide +kernel
theorem dX3_lessMost_54 : decode cX3_lessMost 54 = .ok (.aload_n 0, 1) := by decide +kernel
theorem dX3_lessMost_55 : decode cX3_lessMost 55 = .ok (.getfield 15, 3) := by decide +kernel
theorem dX3_lessMost_58 : decode cX3_lessMost 58 = .ok (.iload_n 1, 1) := by decide +kernel
theorem dX3_lessMost_59 : decode cX3_lessMost 59 = .ok (.iaload, 1) := by decide +kernel
theorem dX3_lessMost_60 : decode cX3_lessMost 60 = .ok (.aload_n 0, 1) := by decide +kernel
theorem dX3_lessMost_61 : decode cX3_lessMost 61 = .ok (.getfield 15, 3) := by decide +kernel
theorem dX3_lessMost_64 : decode cX3_lessMost 64 = .ok (.iload_n 2, 1) := by decide +kernel
theorem dX3_lessMost_65 : decode cX3_lessMost 65 = .ok (.iaload, 1) := by decide +kernel
theorem dX3_lessMost_66 : decode cX3_lessMost 66 = .ok (.if_icmp .eq 26, 3) := by decide +kernel
theorem dX3_lessMost_69 : decode cX3_lessMost 69 = .ok (.aload_n 0, 1) := by decide +kernel
theorem dX3_lessMost_70 : decode cX3_lessMost 70 = .ok (.getfield 15, 3) := by decide +kernel
theorem dX3_lessMost_73 : decode cX3_lessMost 73 = .ok (.iload_n 1, 1) := by decide +kernel
theorem dX3_lessMost_74 : decode cX3_lessMost 74 = .ok (.iaload, 1) := by decide +kernel
theorem dX3_lessMost_75 : decode cX3_lessMost 75 = .ok (.aload_n 0, 1) := by decide +kernel
theorem dX3_lessMost_76 : decode cX3_lessMost 76 = .ok (.getfield 15, 3) := by decide +kernel
theorem dX3_lessMost_79 : decode cX3_lessMost 79 = .ok (.iload_n 2, 1) := by decide +kernel
theorem dX3_lessMost_80 : decode cX3_lessMost 80 = .ok (.iaload, 1) := by decide +kernel
theorem dX3_lessMost_81 : decode cX3_lessMost 81 = .ok (.if_icmp .ge 7, 3) := by decide +kernel
theorem dX3_lessMost_84 : decode cX3_lessMost 84 = .ok (.iconst 1, 1) := by decide +kernel
theorem dX3_lessMost_85 : decode cX3_lessMost 85 = .ok (.goto 27, 3) := by decide +kernel
theorem dX3_lessMost_88 : decode cX3_lessMost 88 = .ok (.iconst 0, 1) := by decide +kernel
theorem dX3_lessMost_89 : decode cX3_lessMost 89 = .ok (.goto 23, 3) := by decide +kernel
theorem dX3_lessMost_92 : decode cX3_lessMost 92 = .ok (.aload_n 0, 1) := by decide +kernel
theorem dX3_lessMost_93 : decode cX3_lessMost 93 = .ok (.getfield 21, 3) := by decide +kernel
theorem dX3_lessMost_96 : decode cX3_lessMost 96 = .ok (.iload_n 1, 1) := by decide +kernel
theorem dX3_lessMost_97 : decode cX3_lessMost 97 = .ok (.iaload, 1) := by decide +kernel
theorem dX3_lessMost_98 : decode cX3_lessMost 98 = .ok (.aload_n 0, 1) := by decide +kernel
theorem dX3_lessMost_99 : decode cX3_lessMost 99 = .ok (.getfield 21, 3) := by decide +kernel
theorem dX3_lessMost_102 : decode cX3_lessMost 102 = .ok (.iload_n 2, 1) := by decide +kernel
theorem dX3_lessMost_103 : decode cX3_lessMost 103 = .ok (.iaload, 1) := by decide +kernel
theorem dX3_lessMost_104 : decode cX3_lessMost 104 = .ok (.if_icmp .ge 7, 3) := by decide +kernel
theorem dX3_lessMost_107 : decode cX3_lessMost 107 = .ok (.iconst 1, 1) := by decide +kernel
theorem dX3_lessMost_108 : decode cX3_lessMost 108 = .ok (.goto 4, 3) := by decide +kernel
theorem dX3_lessMost_111 : decode cX3_lessMost 111 = .ok (.iconst 0, 1) := by decide +kernel
theorem dX3_lessMost_112 : decode cX3_lessMost 112 = .ok (.ireturn, 1) := by decide +kernel
theorem dX3_tell_0 : decode cX3_tell 0 = .ok (.iload_n 1, 1) := by decide +kernel
theorem dX3_tell_1 : decode cX3_tell 1 = .ok (.ifCond .lt 12, 3) := by decide +kernel
theorem dX3_tell_4 : decode cX3_tell 4 = .ok (.iload_n 1, 1) := by decide +kernel
theorem dX3_tell_5 : decode cX3_tell 5 = .ok (.aload_n 0, 1) := by decide +kernel
theorem dX3_tell_6 : decode cX3_tell 6 = .ok (.getfield 15, 3) := by decide +kernel
theorem dX3_tell_9 : decode cX3_tell 9 = .ok (.arraylength, 1) := by decide +kernel
theorem dX3_tell_10 : decode cX3_tell 10 = .ok (.if_icmp .lt 5, 3) := by decide +kernel
theorem dX3_tell_13 : decode cX3_tell 13 = .ok (.iconst (-1), 1) := by decide +kernel
theorem dX3_tell_14 : decode cX3_tell 14 = .ok (.ireturn, 1) := by decide +kernel
theorem dX3_tell_15 : decode cX3_tell 15 = .ok (.iload_n 2, 1) := by decide +kernel
theorem dX3_tell_16 : decode cX3_tell 16 = .ok (.tableswitch 49 0 2 #[28, 35, 42], 28) := by decide +kernel
theorem dX3_tell_44 : decode cX3_tell 44 = .ok (.aload_n 0, 1) := by decide +kernel
theorem dX3_tell_45 : decode cX3_tell 45 = .ok (.getfield 15, 3) := by decide +kernel
theorem dX3_tell_48 : decode cX3_tell 48 = .ok (.iload_n 1, 1) := by decide +kernel
theorem dX3_tell_49 : decode cX3_tell 49 = .ok (.iaload, 1) := by decide +kernel
theorem dX3_tell_50 : decode cX3_tell 50 = .ok (.ireturn, 1) := by decide +kernel
theorem dX3_tell_51 : decode cX3_tell 51 = .ok (.aload_n 0, 1) := by decide +kernel
theorem dX3_tell_52 : decode cX3_tell 52 = .ok (.getfield 21, 3) := by decide +kernel
theorem dX3_tell_55 : decode cX3_tell 55 = .ok (.iload_n 1, 1) := by decide +kernel
theorem dX3_tell_56 : decode cX3_tell 56 = .ok (.iaload, 1) := by decide +kernel
theorem dX3_tell_57 : decode cX3_tell 57 = .ok (.ireturn, 1) := by decide +kernel
theorem dX3_tell_58 : decode cX3_tell 58 = .ok (.aload_n 0, 1) := by decide +kernel
theorem dX3_tell_59 : decode cX3_tell 59 = .ok (.getfield 24, 3) := by decide +kernel
theorem dX3_tell_62 : decode cX3_tell 62 = .ok (.iload_n 1, 1) := by decide +kernel
theorem dX3_tell_63 : decode cX3_tell 63 = .ok (.iaload, 1) := by decide +kernel
theorem dX3_tell_64 : decode cX3_tell 64 = .ok (.ireturn, 1) := by decide +kernel
theorem dX3_tell_65 : decode cX3_tell 65 = .ok (.aload_n 0, 1) := by decide +kernel
theorem dX3_tell_66 : decode cX3_tell 66 = .ok (.getfield 27, 3) := by decide +kernel
theorem dX3_tell_69 : decode cX3_tell 69 = .ok (.iload_n 1, 1) := by decide +kernel
theorem dX3_tell_70 : decode cX3_tell 70 = .ok (.iaload, 1) := by decide +kernel
theorem dX3_tell_71 : decode cX3_tell 71 = .ok (.ireturn, 1) := by decide +kernel
end
section
theorem dX4_init_0 : decode cX4_init 0 = .ok (.aload_n 0, 1) := by decide +kernel
theorem dX4_init_1 : decode cX4_init 1 = .ok (.invokespecial 3, 3) := by decide +kernel
theorem dX4_init_4 : decode cX4_init 4 = .ok (.aload_n 0, 1) := by decide +kernel
theorem dX4_init_5 : decode cX4_init 5 = .ok (.bipush 60, 2) := by decide +kernel
theorem dX4_init_7 : decode cX4_init 7 = .ok (.newarray .int, 2) := by decide +kernel
theorem dX4_init_9 : decode cX4_init 9 = .ok (.putfield 9, 3) := by decide +kernel
theorem dX4_init_12 : decode cX4_init 12 = .ok (.aload_n 0, 1) := by decide +kernel
theorem dX4_init_13 : decode cX4_init 13 = .ok (.iconst (-1), 1) := by decide +kernel
theorem dX4_init_14 : decode cX4_init 14 = .ok (.putfield 15, 3) := by decide +kernel
theorem dX4_init_17 : decode cX4_init 17 = .ok (.return_, 1) := by decide +kernel
theorem dX4_isLost_0 : decode cX4_isLost 0 = .ok (.aload_n 0, 1) := by decide +kernel
theorem dX4_isLost_1 : decode cX4_isLost 1 = .ok (.getfield 15, 3) := by decide +kernel
theorem dX4_isLost_4 : decode cX4_isLost 4 = .ok (.iconst (-1), 1) := by decide +kernel
theorem dX4_isLost_5 : decode cX4_isLost 5 = .ok (.if_icmp .ne 7, 3) := by decide +kernel
theorem dX4_isLost_8 : decode cX4_isLost 8 = .ok (.iconst 1, 1) := by decide +kernel
theorem dX4_isLost_9 : decode cX4_isLost 9 = .ok (.goto 4, 3) := by decide +kernel
theorem dX4_isLost_12 : decode cX4_isLost 12 = .ok (.iconst 0, 1) := by decide +kernel
theorem dX4_isLost_13 : decode cX4_isLost 13 = .ok (.ireturn, 1) := by decide +kernel
theorem dX4_renew_0 : decode cX4_renew 0 = .ok (.aload_n 0, 1) := by decide +kernel
theorem dX4_renew_1 : decode cX4_renew 1 = .ok (.iload_n 1, 1) := by decide +kernel
theorem dX4_renew_2 : decode cX4_renew 2 = .ok (.putfield 15, 3) := by decide +kernel
theorem dX4_renew_5 : decode cX4_renew 5 = .ok (.aload_n 0, 1) := by decide +kernel
theorem dX4_renew_6 : decode cX4_renew 6 = .ok (.iload_n 2, 1) := by decide +kernel
theorem dX4_renew_7 : decode cX4_renew 7 = .ok (.putfield 19, 3) := by decide +kernel
theorem dX4_renew_10 : decode cX4_renew 10 = .ok (.iconst 0, 1) := by decide +kernel
theorem dX4_renew_11 : decode cX4_renew 11 = .ok (.istore_n 3, 1) := by decide +kernel
theorem dX4_renew_12 : decode cX4_renew 12 = .ok (.iload_n 3, 1) := by decide +kernel
theorem dX4_renew_13 : decode cX4_renew 13 = .ok (.aload_n 0, 1) := by decide +kernel
theorem dX4_renew_14 : decode cX4_renew 14 = .ok (.getfield 9, 3) := by decide +kernel
theorem dX4_renew_17 : decode cX4_renew 17 = .ok (.arraylength, 1) := by decide +kernel
theorem dX4_renew_18 : decode cX4_renew 18 = .ok (.if_icmp .ge 16, 3) := by decide +kernel
theorem dX4_renew_21 : decode cX4_renew 21 = .ok (.aload_n 0, 1) := by decide +kernel
theorem dX4_renew_22 : decode cX4_renew 22 = .ok (.getfield 9, 3) := by decide +kernel
theorem dX4_renew_25 : decode cX4_renew 25 = .ok (.iload_n 3, 1) := by decide +kernel
theorem dX4_renew_26 : decode cX4_renew 26 = .ok (.iconst 0, 1) := by decide +kernel
theorem dX4_renew_27 : decode cX4_renew 27 = .ok (.iastore, 1) := by decide +kernel
theorem dX4_renew_28 : decode cX4_renew 28 = .ok (.iinc 3 1, 3) := by decide +kernel
theorem dX4_renew_31 : decode cX4_renew 31 = .ok (.goto (-19), 3) := by decide +kernel
theorem dX4_renew_34 : decode cX4_renew 34 = .ok (.return_, 1) := by decide +kernel
theorem dX4_hasItems_0 : decode cX4_hasItems 0 = .ok (.iload_n 1, 1) := by decide +kernel
theorem dX4_hasItems_1 : decode cX4_hasItems 1 = .ok (.ifCond .lt 29, 3) := by decide +kernel
theorem dX4_hasItems_4 : decode cX4_hasItems 4 = .ok (.iload_n 2, 1) := by decide +kernel
theorem dX4_hasItems_5 : decode cX4_hasItems 5 = .ok (.ifCond .lt 25, 3) := by decide +kernel
theorem dX4_hasItems_8 : decode cX4_hasItems 8 = .ok (.iload_n 1, 1) := by decide +kernel
theorem dX4_hasItems_9 : decode cX4_hasItems 9 = .ok (.aload_n 0, 1) := by decide +kernel
theorem dX4_hasItems_10 : decode cX4_hasItems 10 = .ok (.getfield 19, 3) := by decide +kernel
theorem dX4_hasItems_13 : decode cX4_hasItems 13 = .ok (.if_icmp .gt 17, 3) := by decide +kernel
theorem dX4_hasItems_16 : decode cX4_hasItems 16 = .ok (.iload_n 2, 1) := by decide +kernel
theorem dX4_hasItems_17 : decode cX4_hasItems 17 = .ok (.aload_n 0, 1) := by decide +kernel
theorem dX4_hasItems_18 : decode cX4_hasItems 18 = .ok (.getfield 19, 3) := by decide +kernel
theorem dX4_hasItems_21 : decode cX4_hasItems 21 = .ok (.iload_n 1, 1) := by decide +kernel
theorem dX4_hasItems_22 : decode cX4_hasItems 22 = .ok (.isub, 1) := by decide +kernel
theorem dX4_hasItems_23 : decode cX4_hasItems 23 = .ok (.if_icmp .gt 7, 3) := by decide +kernel
theorem dX4_hasItems_26 : decode cX4_hasItems 26 = .ok (.iconst 1, 1) := by decide +kernel
theorem dX4_hasItems_27 : decode cX4_hasItems 27 = .ok (.goto 4, 3) := by decide +kernel
theorem dX4_hasItems_30 : decode cX4_hasItems 30 = .ok (.iconst 0, 1) := by decide +kernel
theorem dX4_hasItems_31 : decode cX4_hasItems 31 = .ok (.ireturn, 1) := by decide +kernel
theorem dX4_itemAt_0 : decode cX4_itemAt 0 = .ok (.iload_n 1, 1) := by decide +kernel
theorem dX4_itemAt_1 : decode cX4_itemAt 1 = .ok (.ifCond .lt 29, 3) := by decide +kernel
theorem dX4_itemAt_4 : decode cX4_itemAt 4 = .ok (.iload_n 1, 1) := by decide +kernel
theorem dX4_itemAt_5 : decode cX4_itemAt 5 = .ok (.aload_n 0, 1) := by decide +kernel
theorem dX4_itemAt_6 : decode cX4_itemAt 6 = .ok (.getfield 19, 3) := by decide +kernel
theorem dX4_itemAt_9 : decode cX4_itemAt 9 = .ok (.if_icmp .ge 21, 3) := by decide +kernel
theorem dX4_itemAt_12 : decode cX4_itemAt 12 = .ok (.iload_n 1, 1) := by decide +kernel
theorem dX4_itemAt_13 : decode cX4_itemAt 13 = .ok (.aload_n 0, 1) := by decide +kernel
theorem dX4_itemAt_14 : decode cX4_itemAt 14 = .ok (.getfield 9, 3) := by decide +kernel
theorem dX4_itemAt_17 : decode cX4_itemAt 17 = .ok (.arraylength, 1) := by decide +kernel
theorem dX4_itemAt_18 : decode cX4_itemAt 18 = .ok (.if_icmp .ge 12, 3) := by decide +kernel
theorem dX4_itemAt_21 : decode cX4_itemAt 21 = .ok (.aload_n 0, 1) := by decide +kernel
theorem dX4_itemAt_22 : decode cX4_itemAt 22 = .ok (.getfield 9, 3) := by decide +kernel
theorem dX4_itemAt_25 : decode cX4_itemAt 25 = .ok (.iload_n 1, 1) := by decide +kernel
theorem dX4_itemAt_26 : decode cX4_itemAt 26 = .ok (.iaload, 1) := by decide +kernel
theorem dX4_itemAt_27 : decode cX4_itemAt 27 = .ok (.goto 4, 3) := by decide +kernel
theorem dX4_itemAt_30 : decode cX4_itemAt 30 = .ok (.iconst 0, 1) := by decide +kernel
theorem dX4_itemAt_31 : decode cX4_itemAt 31 = .ok (.ireturn, 1) := by decide +kernel
theorem dX4_store_0 : decode cX4_store 0 = .ok (.iload_n 1, 1) := by decide +kernel
theorem dX4_store_1 : decode cX4_store 1 = .ok (.ifCond .lt 20, 3) := by decide +kernel
theorem dX4_store_4 : decode cX4_store 4 = .ok (.iload_n 1, 1) := by decide +kernel
theorem dX4_store_5 : decode cX4_store 5 = .ok (.aload_n 0, 1) := by decide +kernel
theorem dX4_store_6 : decode cX4_store 6 = .ok (.getfield 19, 3) := by decide +kernel
theorem dX4_store_9 : decode cX4_store 9 = .ok (.if_icmp .ge 12, 3) := by decide +kernel
theorem dX4_store_12 : decode cX4_store 12 = .ok (.iload_n 1, 1) := by decide +kernel
theorem dX4_store_13 : decode cX4_store 13 = .ok (.aload_n 0, 1) := by decide +kernel
theorem dX4_store_14 : decode cX4_store 14 = .ok (.getfield 9, 3) := by decide +kernel
theorem dX4_store_17 : decode cX4_store 17 = .ok (.arraylength, 1) := by decide +kernel
theorem dX4_store_18 : decode cX4_store 18 = .ok (.if_icmp .lt 4, 3) := by decide +kernel
theorem dX4_store_21 : decode cX4_store 21 = .ok (.return_, 1) := by decide +kernel
theorem dX4_store_22 : decode cX4_store 22 = .ok (.aload_n 0, 1) := by decide +kernel
theorem dX4_store_23 : decode cX4_store 23 = .ok (.getfield 15, 3) := by decide +kernel
theorem dX4_store_26 : decode cX4_store 26 = .ok (.ifCond .ne 14, 3) := by decide +kernel
theorem dX4_store_29 : decode cX4_store 29 = .ok (.aload_n 0, 1) := by decide +kernel
theorem dX4_store_30 : decode cX4_store 30 = .ok (.getfield 9, 3) := by decide +kernel
theorem dX4_store_33 : decode cX4_store 33 = .ok (.iload_n 1, 1) := by decide +kernel
theorem dX4_store_34 : decode cX4_store 34 = .ok (.iload_n 2, 1) := by decide +kernel
theorem dX4_store_35 : decode cX4_store 35 = .ok (.i2b, 1) := by decide +kernel
theorem dX4_store_36 : decode cX4_store 36 = .ok (.iastore, 1) := by decide +kernel
theorem dX4_store_37 : decode cX4_store 37 = .ok (.goto 29, 3) := by decide +kernel
theorem dX4_store_40 : decode cX4_store 40 = .ok (.aload_n 0, 1) := by decide +kernel
theorem dX4_store_41 : decode cX4_store 41 = .ok (.getfield 15, 3) := by decide +kernel
theorem dX4_store_44 : decode cX4_store 44 = .ok (.iconst 1, 1) := by decide +kernel
theorem dX4_store_45 : decode cX4_store 45 = .ok (.if_icmp .ne 14, 3) := by decide +kernel
theorem dX4_store_48 : decode cX4_store 48 = .ok (.aload_n 0, 1) := by decide +kernel
theorem dX4_store_49 : decode cX4_store 49 = .ok (.getfield 9, 3) := by decide +kernel
theorem dX4_store_52 : decode cX4_store 52 = .ok (.iload_n 1, 1) := by decide +kernel
theorem dX4_store_53 : decode cX4_store 53 = .ok (.iload_n 2, 1) := by decide +kernel
theorem dX4_store_54 : decode cX4_store 54 = .ok (.i2s, 1) := by decide +kernel
theorem dX4_store_55 : decode cX4_store 55 = .ok (.iastore, 1) := by decide +kernel
theorem dX4_store_56 : decode cX4_store 56 = .ok (.goto 10, 3) := by decide +kernel
theorem dX4_store_59 : decode cX4_store 59 = .ok (.aload_n 0, 1) := by decide +kernel
theorem dX4_store_60 : decode cX4_store 60 = .ok (.getfield 9, 3) := by decide +kernel
theorem dX4_store_63 : decode cX4_store 63 = .ok (.iload_n 1, 1) := by decide +kernel
theorem dX4_store_64 : decode cX4_store 64 = .ok (.iload_n 2, 1) := by decide +kernel
theorem dX4_store_65 : decode cX4_store 65 = .ok (.iastore, 1) := by decide +kernel
theorem dX4_store_66 : decode cX4_store 66 = .ok (.return_, 1) := by decide +kernel
end
section
theorem dX5_init_0 : decode cX5_init 0 = .ok (.aload_n 0, 1) := by decide +kernel
theorem dX5_init_1 : decode cX5_init 1 = .ok (.invokespecial 3, 3) := by decide +kernel
theorem dX5_init_4 : decode cX5_init 4 = .ok (.aload_n 0, 1) := by decide +kernel
theorem dX5_init_5 : decode cX5_init 5 = .ok (.new 9, 3) := by decide +kernel
theorem dX5_init_8 : decode cX5_init 8 = .ok (.dup, 1) := by decide +kernel
theorem dX5_init_9 : decode cX5_init 9 = .ok (.bipush 40, 2) := by decide +kernel
theorem dX5_init_11 : decode cX5_init 11 = .ok (.invokespecial 11, 3) := by decide +kernel
theorem dX5_init_14 : decode cX5_init 14 = .ok (.putfield 14, 3) := by decide +kernel
theorem dX5_init_17 : decode cX5_init 17 = .ok (.aload_n 0, 1) := by decide +kernel
theorem dX5_init_18 : decode cX5_init 18 = .ok (.new 9, 3) := by decide +kernel
theorem dX5_init_21 : decode cX5_init 21 = .ok (.dup, 1) := by decide +kernel
theorem dX5_init_22 : decode cX5_init 22 = .ok (.bipush 64, 2) := by decide +kernel
theorem dX5_init_24 : decode cX5_init 24 = .ok (.invokespecial 11, 3) := by decide +kernel
theorem dX5_init_27 : decode cX5_init 27 = .ok (.putfield 20, 3) := by decide +kernel
theorem dX5_init_30 : decode cX5_init 30 = .ok (.aload_n 0, 1) := by decide +kernel
theorem dX5_init_31 : decode cX5_init 31 = .ok (.bipush 100, 2) := by decide +kernel
theorem dX5_init_33 : decode cX5_init 33 = .ok (.newarray .int, 2) := by decide +kernel
theorem dX5_init_35 : decode cX5_init 35 = .ok (.putfield 23, 3) := by decide +kernel
theorem dX5_init_38 : decode cX5_init 38 = .ok (.aload_n 0, 1) := by decide +kernel
theorem dX5_init_39 : decode cX5_init 39 = .ok (.bipush 40, 2) := by decide +kernel
theorem dX5_init_41 : decode cX5_init 41 = .ok (.newarray .int, 2) := by decide +kernel
theorem dX5_init_43 : decode cX5_init 43 = .ok (.putfield 27, 3) := by decide +kernel
theorem dX5_init_46 : decode cX5_init 46 = .ok (.aload_n 0, 1) := by decide +kernel
theorem dX5_init_47 : decode cX5_init 47 = .ok (.iconst (-1), 1) := by decide +kernel
theorem dX5_init_48 : decode cX5_init 48 = .ok (.putfield 30, 3) := by decide +kernel
theorem dX5_init_51 : decode cX5_init 51 = .ok (.return_, 1) := by decide +kernel
theorem dX5_make_0 : decode cX5_make 0 = .ok (.aload_n 0, 1) := by decide +kernel
theorem dX5_make_1 : decode cX5_make 1 = .ok (.aload_n 1, 1) := by decide +kernel
theorem dX5_make_2 : decode cX5_make 2 = .ok (.getfield 34, 3) := by decide +kernel
theorem dX5_make_5 : decode cX5_make 5 = .ok (.ifCond .ne 7, 3) := by decide +kernel
theorem dX5_make_8 : decode cX5_make 8 = .ok (.iconst 0, 1) := by decide +kernel
theorem dX5_make_9 : decode cX5_make 9 = .ok (.goto 9, 3) := by decide +kernel
theorem dX5_make_12 : decode cX5_make 12 = .ok (.iconst 1, 1) := by decide +kernel
theorem dX5_make_13 : decode cX5_make 13 = .ok (.aload_n 1, 1) := by decide +kernel
theorem dX5_make_14 : decode cX5_make 14 = .ok (.getfield 38, 3) := by decide +kernel
theorem dX5_make_17 : decode cX5_make 17 = .ok (.ishl, 1) := by decide +kernel
theorem dX5_make_18 : decode cX5_make 18 = .ok (.putfield 41, 3) := by decide +kernel
theorem dX5_make_21 : decode cX5_make 21 = .ok (.iconst 0, 1) := by decide +kernel
theorem dX5_make_22 : decode cX5_make 22 = .ok (.istore_n 2, 1) := by decide +kernel
theorem dX5_make_23 : decode cX5_make 23 = .ok (.iload_n 2, 1) := by decide +kernel
theorem dX5_make_24 : decode cX5_make 24 = .ok (.aload_n 0, 1) := by decide +kernel
theorem dX5_make_25 : decode cX5_make 25 = .ok (.getfield 41, 3) := by decide +kernel
theorem dX5_make_28 : decode cX5_make 28 = .ok (.if_icmp .ge 59, 3) := by decide +kernel
theorem dX5_make_31 : decode cX5_make 31 = .ok (.aload_n 0, 1) := by decide +kernel
theorem dX5_make_32 : decode cX5_make 32 = .ok (.aload_n 1, 1) := by decide +kernel
theorem dX5_make_33 : decode cX5_make 33 = .ok (.iload_n 2, 1) := by decide +kernel
theorem dX5_make_34 : decode cX5_make 34 = .ok (.invokevirtual 44, 3) := by decide +kernel
theorem dX5_make_37 : decode cX5_make 37 = .ok (.aload_n 0, 1) := by decide +kernel
theorem dX5_make_38 : decode cX5_make 38 = .ok (.getfield 20, 3) := by decide +kernel
theorem dX5_make_41 : decode cX5_make 41 = .ok (.iload_n 2, 1) := by decide +kernel
theorem dX5_make_42 : decode cX5_make 42 = .ok (.aload_n 0, 1) := by decide +kernel
theorem dX5_make_43 : decode cX5_make 43 = .ok (.getfield 14, 3) := by decide +kernel
theorem dX5_make_46 : decode cX5_make 46 = .ok (.getfield 48, 3) := by decide +kernel
theorem dX5_make_49 : decode cX5_make 49 = .ok (.iconst 0, 1) := by decide +kernel
theorem dX5_make_50 : decode cX5_make 50 = .ok (.iaload, 1) := by decide +kernel
theorem dX5_make_51 : decode cX5_make 51 = .ok (.aload_n 0, 1) := by decide +kernel
theorem dX5_make_52 : decode cX5_make 52 = .ok (.getfield 14, 3) := by decide +kernel
theorem dX5_make_55 : decode cX5_make 55 = .ok (.getfield 51, 3) := by decide +kernel
theorem dX5_make_58 : decode cX5_make 58 = .ok (.iconst 0, 1) := by decide +kernel
theorem dX5_make_59 : decode cX5_make 59 = .ok (.iaload, 1) := by decide +kernel
theorem dX5_make_60 : decode cX5_make 60 = .ok (.aload_n 0, 1) := by decide +kernel
theorem dX5_make_61 : decode cX5_make 61 = .ok (.getfield 14, 3) := by decide +kernel
theorem dX5_make_64 : decode cX5_make 64 = .ok (.getfield 54, 3) := by decide +kernel
theorem dX5_make_67 : decode cX5_make 67 = .ok (.iconst 0, 1) := by decide +kernel
theorem dX5_make_68 : decode cX5_make 68 = .ok (.iaload, 1) := by decide +kernel
theorem dX5_make_69 : decode cX5_make 69 = .ok (.aload_n 0, 1) := by decide +kernel
theorem dX5_make_70 : decode cX5_make 70 = .ok (.getfield 14, 3) := by decide +kernel
theorem dX5_make_73 : decode cX5_make 73 = .ok (.getfield 57, 3) := by decide +kernel
theorem dX5_make_76 : decode cX5_make 76 = .ok (.iconst 0, 1) := by decide +kernel
theorem dX5_make_77 : decode cX5_make 77 = .ok (.iaload, 1) := by decide +kernel
theorem dX5_make_78 : decode cX5_make 78 = .ok (.invokevirtual 60, 3) := by decide +kernel
theorem dX5_make_81 : decode cX5_make 81 = .ok (.iinc 2 1, 3) := by decide +kernel
theorem dX5_make_84 : decode cX5_make 84 = .ok (.goto (-61), 3) := by decide +kernel
theorem dX5_make_87 : decode cX5_make 87 = .ok (.aload_n 0, 1) := by decide +kernel
theorem dX5_make_88 : decode cX5_make 88 = .ok (.invokevirtual 64, 3) := by decide +kernel
theorem dX5_make_91 : decode cX5_make 91 = .ok (.aload_n 0, 1) := by decide +kernel
theorem dX5_make_92 : decode cX5_make 92 = .ok (.invokevirtual 67, 3) := by decide +kernel
theorem dX5_make_95 : decode cX5_make 95 = .ok (.return_, 1) := by decide +kernel
theorem dX5_shapeParts_0 : decode cX5_shapeParts 0 = .ok (.aload_n 1, 1) := by decide +kernel
theorem dX5_shapeParts_1 : decode cX5_shapeParts 1 = .ok (.getfield 34, 3) := by decide +kernel
theorem dX5_shapeParts_4 : decode cX5_shapeParts 4 = .ok (.iconst 1, 1) := by decide +kernel
theorem dX5_shapeParts_5 : decode cX5_shapeParts 5 = .ok (.isub, 1) := by decide +kernel
theorem dX5_shapeParts_6 : decode cX5_shapeParts 6 = .ok (.istore_n 3, 1) := by decide +kernel
theorem dX5_shapeParts_7 : decode cX5_shapeParts 7 = .ok (.iload_n 3, 1) := by decide +kernel
theorem dX5_shapeParts_8 : decode cX5_shapeParts 8 = .ok (.ifCond .lt 16, 3) := by decide +kernel
theorem dX5_shapeParts_11 : decode cX5_shapeParts 11 = .ok (.aload_n 0, 1) := by decide +kernel
theorem dX5_shapeParts_12 : decode cX5_shapeParts 12 = .ok (.aload_n 1, 1) := by decide +kernel
theorem dX5_shapeParts_13 : decode cX5_shapeParts 13 = .ok (.iload_n 3, 1) := by decide +kernel
theorem dX5_shapeParts_14 : decode cX5_shapeParts 14 = .ok (.iload_n 2, 1) := by decide +kernel
theorem dX5_shapeParts_15 : decode cX5_shapeParts 15 = .ok (.invokevirtual 70, 3) := by decide +kernel
theorem dX5_shapeParts_18 : decode cX5_shapeParts 18 = .ok (.iinc 3 (-1), 3) := by decide +kernel
theorem dX5_shapeParts_21 : decode cX5_shapeParts 21 = .ok (.goto (-14), 3) := by decide +kernel
theorem dX5_shapeParts_24 : decode cX5_shapeParts 24 = .ok (.return_, 1) := by decide +kernel
theorem dX5_shapeOne_0 : decode cX5_shapeOne 0 = .ok (.aload_n 1, 1) := by decide +kernel
theorem dX5_shapeOne_1 : decode cX5_shapeOne 1 = .ok (.iload_n 2, 1) := by decide +kernel
theorem dX5_shapeOne_2 : decode cX5_shapeOne 2 = .ok (.invokevirtual 74, 3) := by decide +kernel
theorem dX5_shapeOne_5 : decode cX5_shapeOne 5 = .ok (.ifCond .ne 4, 3) := by decide +kernel
theorem dX5_shapeOne_8 : decode cX5_shapeOne 8 = .ok (.return_, 1) := by decide +kernel
theorem dX5_shapeOne_9 : decode cX5_shapeOne 9 = .ok (.aload_n 1, 1) := by decide +kernel
theorem dX5_shapeOne_10 : decode cX5_shapeOne 10 = .ok (.getfield 78, 3) := by decide +kernel
theorem dX5_shapeOne_13 : decode cX5_shapeOne 13 = .ok (.iload_n 2, 1) := by decide +kernel
theorem dX5_shapeOne_14 : decode cX5_shapeOne 14 = .ok (.iaload, 1) := by decide +kernel
theorem dX5_shapeOne_15 : decode cX5_shapeOne 15 = .ok (.istore 4, 2) := by decide +kernel
theorem dX5_shapeOne_17 : decode cX5_shapeOne 17 = .ok (.aload_n 1, 1) := by decide +kernel
theorem dX5_shapeOne_18 : decode cX5_shapeOne 18 = .ok (.getfield 81, 3) := by decide +kernel
theorem dX5_shapeOne_21 : decode cX5_shapeOne 21 = .ok (.iload_n 2, 1) := by decide +kernel
theorem dX5_shapeOne_22 : decode cX5_shapeOne 22 = .ok (.iaload, 1) := by decide +kernel
theorem dX5_shapeOne_23 : decode cX5_shapeOne 23 = .ok (.istore 5, 2) := by decide +kernel
theorem dX5_shapeOne_25 : decode cX5_shapeOne 25 = .ok (.iload 4, 2) := by decide +kernel
theorem dX5_shapeOne_27 : decode cX5_shapeOne 27 = .ok (.iconst 1, 1) := by decide +kernel
theorem dX5_shapeOne_28 : decode cX5_shapeOne 28 = .ok (.if_icmp .eq 9, 3) := by decide +kernel
theorem dX5_shapeOne_31 : decode cX5_shapeOne 31 = .ok (.iload 4, 2) := by decide +kernel
theorem dX5_shapeOne_33 : decode cX5_shapeOne 33 = .ok (.iconst 2, 1) := by decide +kernel
theorem dX5_shapeOne_34 : decode cX5_shapeOne 34 = .ok (.if_icmp .ne 12, 3) := by decide +kernel
theorem dX5_shapeOne_37 : decode cX5_shapeOne 37 = .ok (.aload_n 1, 1) := by decide +kernel
theorem dX5_shapeOne_38 : decode cX5_shapeOne 38 = .ok (.getfield 84, 3) := by decide +kernel
theorem dX5_shapeOne_41 : decode cX5_shapeOne 41 = .ok (.iload_n 2, 1) := by decide +kernel
theorem dX5_shapeOne_42 : decode cX5_shapeOne 42 = .ok (.iaload, 1) := by decide +kernel
theorem dX5_shapeOne_43 : decode cX5_shapeOne 43 = .ok (.goto 5, 3) := by decide +kernel
theorem dX5_shapeOne_46 : decode cX5_shapeOne 46 = .ok (.iload 5, 2) := by decide +kernel
theorem dX5_shapeOne_48 : decode cX5_shapeOne 48 = .ok (.istore 6, 2) := by decide +kernel
theorem dX5_shapeOne_50 : decode cX5_shapeOne 50 = .ok (.iload 4, 2) := by decide +kernel
theorem dX5_shapeOne_52 : decode cX5_shapeOne 52 = .ok (.ifCond .ne 20, 3) := by decide +kernel
theorem dX5_shapeOne_55 : decode cX5_shapeOne 55 = .ok (.aload_n 0, 1) := by decide +kernel
theorem dX5_shapeOne_56 : decode cX5_shapeOne 56 = .ok (.getfield 14, 3) := by decide +kernel
theorem dX5_shapeOne_59 : decode cX5_shapeOne 59 = .ok (.iload_n 2, 1) := by decide +kernel
theorem dX5_shapeOne_60 : decode cX5_shapeOne 60 = .ok (.aload_n 1, 1) := by decide +kernel
theorem dX5_shapeOne_61 : decode cX5_shapeOne 61 = .ok (.getfield 87, 3) := by decide +kernel
theorem dX5_shapeOne_64 : decode cX5_shapeOne 64 = .ok (.iload_n 2, 1) := by decide +kernel
theorem dX5_shapeOne_65 : decode cX5_shapeOne 65 = .ok (.iaload, 1) := by decide +kernel
theorem dX5_shapeOne_66 : decode cX5_shapeOne 66 = .ok (.invokevirtual 90, 3) := by decide +kernel
theorem dX5_shapeOne_69 : decode cX5_shapeOne 69 = .ok (.goto 123, 3) := by decide +kernel
theorem dX5_shapeOne_72 : decode cX5_shapeOne 72 = .ok (.iload 4, 2) := by decide +kernel
theorem dX5_shapeOne_74 : decode cX5_shapeOne 74 = .ok (.iconst 3, 1) := by decide +kernel
theorem dX5_shapeOne_75 : decode cX5_shapeOne 75 = .ok (.if_icmp .ne 44, 3) := by decide +kernel
theorem dX5_shapeOne_78 : decode cX5_shapeOne 78 = .ok (.iload_n 3, 1) := by decide +kernel
theorem dX5_shapeOne_79 : decode cX5_shapeOne 79 = .ok (.iconst 1, 1) := by decide +kernel
theorem dX5_shapeOne_80 : decode cX5_shapeOne 80 = .ok (.aload_n 1, 1) := by decide +kernel
theorem dX5_shapeOne_81 : decode cX5_shapeOne 81 = .ok (.getfield 87, 3) := by decide +kernel
theorem dX5_shapeOne_84 : decode cX5_shapeOne 84 = .ok (.iload_n 2, 1) := by decide +kernel
theorem dX5_shapeOne_85 : decode cX5_shapeOne 85 = .ok (.iaload, 1) := by decide +kernel
theorem dX5_shapeOne_86 : decode cX5_shapeOne 86 = .ok (.ishl, 1) := by decide +kernel
theorem dX5_shapeOne_87 : decode cX5_shapeOne 87 = .ok (.iand, 1) := by decide +kernel
theorem dX5_shapeOne_88 : decode cX5_shapeOne 88 = .ok (.istore 7, 2) := by decide +kernel
theorem dX5_shapeOne_90 : decode cX5_shapeOne 90 = .ok (.aload_n 0, 1) := by decide +kernel
theorem dX5_shapeOne_91 : decode cX5_shapeOne 91 = .ok (.getfield 14, 3) := by decide +kernel
theorem dX5_shapeOne_94 : decode cX5_shapeOne 94 = .ok (.iload_n 2, 1) := by decide +kernel
theorem dX5_shapeOne_95 : decode cX5_shapeOne 95 = .ok (.iload 7, 2) := by decide +kernel
theorem dX5_shapeOne_97 : decode cX5_shapeOne 97 = .ok (.ifCond .ne 8, 3) := by decide +kernel
theorem dX5_shapeOne_100 : decode cX5_shapeOne 100 = .ok (.iload 5, 2) := by decide +kernel
theorem dX5_shapeOne_102 : decode cX5_shapeOne 102 = .ok (.goto 9, 3) := by decide +kernel
theorem dX5_shapeOne_105 : decode cX5_shapeOne 105 = .ok (.aload_n 1, 1) := by decide +kernel
theorem dX5_shapeOne_106 : decode cX5_shapeOne 106 = .ok (.getfield 84, 3) := by decide +kernel
theorem dX5_shapeOne_109 : decode cX5_shapeOne 109 = .ok (.iload_n 2, 1) := by decide +kernel
theorem dX5_shapeOne_110 : decode cX5_shapeOne 110 = .ok (.iaload, 1) := by decide +kernel
theorem dX5_shapeOne_111 : decode cX5_shapeOne 111 = .ok (.iload 7, 2) := by decide +kernel
theorem dX5_shapeOne_113 : decode cX5_shapeOne 113 = .ok (.invokevirtual 94, 3) := by decide +kernel
theorem dX5_shapeOne_116 : decode cX5_shapeOne 116 = .ok (.goto 76, 3) := by decide +kernel
theorem dX5_shapeOne_119 : decode cX5_shapeOne 119 = .ok (.aload_n 0, 1) := by decide +kernel
theorem dX5_shapeOne_120 : decode cX5_shapeOne 120 = .ok (.iload 5, 2) := by decide +kernel
theorem dX5_shapeOne_122 : decode cX5_shapeOne 122 = .ok (.invokevirtual 98, 3) := by decide +kernel
theorem dX5_shapeOne_125 : decode cX5_shapeOne 125 = .ok (.ifCond .eq 32, 3) := by decide +kernel
theorem dX5_shapeOne_128 : decode cX5_shapeOne 128 = .ok (.aload_n 0, 1) := by decide +kernel
theorem dX5_shapeOne_129 : decode cX5_shapeOne 129 = .ok (.iload 6, 2) := by decide +kernel
theorem dX5_shapeOne_131 : decode cX5_shapeOne 131 = .ok (.invokevirtual 98, 3) := by decide +kernel
theorem dX5_shapeOne_134 : decode cX5_shapeOne 134 = .ok (.ifCond .eq 23, 3) := by decide +kernel
theorem dX5_shapeOne_137 : decode cX5_shapeOne 137 = .ok (.iload 4, 2) := by decide +kernel
theorem dX5_shapeOne_139 : decode cX5_shapeOne 139 = .ok (.iconst 5, 1) := by decide +kernel
theorem dX5_shapeOne_140 : decode cX5_shapeOne 140 = .ok (.if_icmp .ne 32, 3) := by decide +kernel
theorem dX5_shapeOne_143 : decode cX5_shapeOne 143 = .ok (.aload_n 0, 1) := by decide +kernel
theorem dX5_shapeOne_144 : decode cX5_shapeOne 144 = .ok (.getfield 14, 3) := by decide +kernel
theorem dX5_shapeOne_147 : decode cX5_shapeOne 147 = .ok (.iload 5, 2) := by decide +kernel
theorem dX5_shapeOne_149 : decode cX5_shapeOne 149 = .ok (.iconst 0, 1) := by decide +kernel
theorem dX5_shapeOne_150 : decode cX5_shapeOne 150 = .ok (.invokevirtual 101, 3) := by decide +kernel
theorem dX5_shapeOne_153 : decode cX5_shapeOne 153 = .ok (.iconst 1, 1) := by decide +kernel
theorem dX5_shapeOne_154 : decode cX5_shapeOne 154 = .ok (.if_icmp .eq 18, 3) := by decide +kernel
theorem dX5_shapeOne_157 : decode cX5_shapeOne 157 = .ok (.aload_n 0, 1) := by decide +kernel
theorem dX5_shapeOne_158 : decode cX5_shapeOne 158 = .ok (.getfield 14, 3) := by decide +kernel
theorem dX5_shapeOne_161 : decode cX5_shapeOne 161 = .ok (.iload_n 2, 1) := by decide +kernel
theorem dX5_shapeOne_162 : decode cX5_shapeOne 162 = .ok (.iconst 0, 1) := by decide +kernel
theorem dX5_shapeOne_163 : decode cX5_shapeOne 163 = .ok (.iconst 0, 1) := by decide +kernel
theorem dX5_shapeOne_164 : decode cX5_shapeOne 164 = .ok (.iconst 0, 1) := by decide +kernel
theorem dX5_shapeOne_165 : decode cX5_shapeOne 165 = .ok (.iconst 0, 1) := by decide +kernel
theorem dX5_shapeOne_166 : decode cX5_shapeOne 166 = .ok (.invokevirtual 60, 3) := by decide +kernel
theorem dX5_shapeOne_169 : decode cX5_shapeOne 169 = .ok (.goto 23, 3) := by decide +kernel
theorem dX5_shapeOne_172 : decode cX5_shapeOne 172 = .ok (.aload_n 0, 1) := by decide +kernel
theorem dX5_shapeOne_173 : decode cX5_shapeOne 173 = .ok (.getfield 14, 3) := by decide +kernel
theorem dX5_shapeOne_176 : decode cX5_shapeOne 176 = .ok (.iload_n 2, 1) := by decide +kernel
theorem dX5_shapeOne_177 : decode cX5_shapeOne 177 = .ok (.iload 4, 2) := by decide +kernel
theorem dX5_shapeOne_179 : decode cX5_shapeOne 179 = .ok (.aload_n 1, 1) := by decide +kernel
theorem dX5_shapeOne_180 : decode cX5_shapeOne 180 = .ok (.getfield 87, 3) := by decide +kernel
theorem dX5_shapeOne_183 : decode cX5_shapeOne 183 = .ok (.iload_n 2, 1) := by decide +kernel
theorem dX5_shapeOne_184 : decode cX5_shapeOne 184 = .ok (.iaload, 1) := by decide +kernel
theorem dX5_shapeOne_185 : decode cX5_shapeOne 185 = .ok (.iload 5, 2) := by decide +kernel
theorem dX5_shapeOne_187 : decode cX5_shapeOne 187 = .ok (.iload 6, 2) := by decide +kernel
theorem dX5_shapeOne_189 : decode cX5_shapeOne 189 = .ok (.invokevirtual 105, 3) := by decide +kernel
theorem dX5_shapeOne_192 : decode cX5_shapeOne 192 = .ok (.return_, 1) := by decide +kernel
theorem dX5_stands_0 : decode cX5_stands 0 = .ok (.aload_n 0, 1) := by decide +kernel
theorem dX5_stands_1 : decode cX5_stands 1 = .ok (.getfield 14, 3) := by decide +kernel
theorem dX5_stands_4 : decode cX5_stands 4 = .ok (.iload_n 1, 1) := by decide +kernel
theorem dX5_stands_5 : decode cX5_stands 5 = .ok (.iconst 0, 1) := by decide +kernel
theorem dX5_stands_6 : decode cX5_stands 6 = .ok (.invokevirtual 101, 3) := by decide +kernel
theorem dX5_stands_9 : decode cX5_stands 9 = .ok (.ifCond .le 7, 3) := by decide +kernel
theorem dX5_stands_12 : decode cX5_stands 12 = .ok (.iconst 1, 1) := by decide +kernel
theorem dX5_stands_13 : decode cX5_stands 13 = .ok (.goto 4, 3) := by decide +kernel
theorem dX5_stands_16 : decode cX5_stands 16 = .ok (.iconst 0, 1) := by decide +kernel
theorem dX5_stands_17 : decode cX5_stands 17 = .ok (.ireturn, 1) := by decide +kernel
theorem dX5_findLines_0 : decode cX5_findLines 0 = .ok (.iconst 0, 1) := by decide +kernel
theorem dX5_findLines_1 : decode cX5_findLines 1 = .ok (.istore_n 1, 1) := by decide +kernel
theorem dX5_findLines_2 : decode cX5_findLines 2 = .ok (.iload_n 1, 1) := by decide +kernel
theorem dX5_findLines_3 : decode cX5_findLines 3 = .ok (.bipush 99, 2) := by decide +kernel
theorem dX5_findLines_5 : decode cX5_findLines 5 = .ok (.if_icmp .gt 16, 3) := by decide +kernel
theorem dX5_findLines_8 : decode cX5_findLines 8 = .ok (.aload_n 0, 1) := by decide +kernel
theorem dX5_findLines_9 : decode cX5_findLines 9 = .ok (.getfield 23, 3) := by decide +kernel
theorem dX5_findLines_12 : decode cX5_findLines 12 = .ok (.iload_n 1, 1) := by decide +kernel
theorem dX5_findLines_13 : decode cX5_findLines 13 = .ok (.iconst (-1), 1) := by decide +kernel
theorem dX5_findLines_14 : decode cX5_findLines 14 = .ok (.iastore, 1) := by decide +kernel
theorem dX5_findLines_15 : decode cX5_findLines 15 = .ok (.iinc 1 1, 3) := by decide +kernel
theorem dX5_findLines_18 : decode cX5_findLines 18 = .ok (.goto (-16), 3) := by decide +kernel
theorem dX5_findLines_21 : decode cX5_findLines 21 = .ok (.iconst 0, 1) := by decide +kernel
theorem dX5_findLines_22 : decode cX5_findLines 22 = .ok (.istore_n 1, 1) := by decide +kernel
theorem dX5_findLines_23 : decode cX5_findLines 23 = .ok (.iload_n 1, 1) := by decide +kernel
theorem dX5_findLines_24 : decode cX5_findLines 24 = .ok (.aload_n 0, 1) := by decide +kernel
theorem dX5_findLines_25 : decode cX5_findLines 25 = .ok (.getfield 41, 3) := by decide +kernel
theorem dX5_findLines_28 : decode cX5_findLines 28 = .ok (.if_icmp .ge 94, 3) := by decide +kernel
theorem dX5_findLines_31 : decode cX5_findLines 31 = .ok (.aload_n 0, 1) := by decide +kernel
theorem dX5_findLines_32 : decode cX5_findLines 32 = .ok (.getfield 20, 3) := by decide +kernel
theorem dX5_findLines_35 : decode cX5_findLines 35 = .ok (.iload_n 1, 1) := by decide +kernel
theorem dX5_findLines_36 : decode cX5_findLines 36 = .ok (.iconst 2, 1) := by decide +kernel
theorem dX5_findLines_37 : decode cX5_findLines 37 = .ok (.invokevirtual 101, 3) := by decide +kernel
theorem dX5_findLines_40 : decode cX5_findLines 40 = .ok (.istore_n 2, 1) := by decide +kernel
theorem dX5_findLines_41 : decode cX5_findLines 41 = .ok (.aload_n 0, 1) := by decide +kernel
theorem dX5_findLines_42 : decode cX5_findLines 42 = .ok (.getfield 20, 3) := by decide +kernel
theorem dX5_findLines_45 : decode cX5_findLines 45 = .ok (.iload_n 1, 1) := by decide +kernel
theorem dX5_findLines_46 : decode cX5_findLines 46 = .ok (.iconst 0, 1) := by decide +kernel
theorem dX5_findLines_47 : decode cX5_findLines 47 = .ok (.invokevirtual 101, 3) := by decide +kernel
theorem dX5_findLines_50 : decode cX5_findLines 50 = .ok (.ifCond .le 17, 3) := by decide +kernel
theorem dX5_findLines_53 : decode cX5_findLines 53 = .ok (.iload_n 2, 1) := by decide +kernel
theorem dX5_findLines_54 : decode cX5_findLines 54 = .ok (.ifCond .lt 13, 3) := by decide +kernel
theorem dX5_findLines_57 : decode cX5_findLines 57 = .ok (.iload_n 2, 1) := by decide +kernel
theorem dX5_findLines_58 : decode cX5_findLines 58 = .ok (.bipush 99, 2) := by decide +kernel
theorem dX5_findLines_60 : decode cX5_findLines 60 = .ok (.if_icmp .gt 7, 3) := by decide +kernel
theorem dX5_findLines_63 : decode cX5_findLines 63 = .ok (.iconst 1, 1) := by decide +kernel
theorem dX5_findLines_64 : decode cX5_findLines 64 = .ok (.goto 4, 3) := by decide +kernel
theorem dX5_findLines_67 : decode cX5_findLines 67 = .ok (.iconst 0, 1) := by decide +kernel
theorem dX5_findLines_68 : decode cX5_findLines 68 = .ok (.istore_n 3, 1) := by decide +kernel
theorem dX5_findLines_69 : decode cX5_findLines 69 = .ok (.iload_n 3, 1) := by decide +kernel
theorem dX5_findLines_70 : decode cX5_findLines 70 = .ok (.ifCond .eq 46, 3) := by decide +kernel
theorem dX5_findLines_73 : decode cX5_findLines 73 = .ok (.aload_n 0, 1) := by decide +kernel
theorem dX5_findLines_74 : decode cX5_findLines 74 = .ok (.getfield 23, 3) := by decide +kernel
theorem dX5_findLines_77 : decode cX5_findLines 77 = .ok (.iload_n 2, 1) := by decide +kernel
theorem dX5_findLines_78 : decode cX5_findLines 78 = .ok (.iaload, 1) := by decide +kernel
theorem dX5_findLines_79 : decode cX5_findLines 79 = .ok (.iconst (-1), 1) := by decide +kernel
theorem dX5_findLines_80 : decode cX5_findLines 80 = .ok (.if_icmp .eq 21, 3) := by decide +kernel
theorem dX5_findLines_83 : decode cX5_findLines 83 = .ok (.aload_n 0, 1) := by decide +kernel
theorem dX5_findLines_84 : decode cX5_findLines 84 = .ok (.getfield 20, 3) := by decide +kernel
theorem dX5_findLines_87 : decode cX5_findLines 87 = .ok (.iload_n 1, 1) := by decide +kernel
theorem dX5_findLines_88 : decode cX5_findLines 88 = .ok (.iconst 0, 1) := by decide +kernel
theorem dX5_findLines_89 : decode cX5_findLines 89 = .ok (.invokevirtual 101, 3) := by decide +kernel
theorem dX5_findLines_92 : decode cX5_findLines 92 = .ok (.aload_n 0, 1) := by decide +kernel
theorem dX5_findLines_93 : decode cX5_findLines 93 = .ok (.getfield 23, 3) := by decide +kernel
theorem dX5_findLines_96 : decode cX5_findLines 96 = .ok (.iload_n 2, 1) := by decide +kernel
theorem dX5_findLines_97 : decode cX5_findLines 97 = .ok (.iaload, 1) := by decide +kernel
theorem dX5_findLines_98 : decode cX5_findLines 98 = .ok (.if_icmp .ge 18, 3) := by decide +kernel
theorem dX5_findLines_101 : decode cX5_findLines 101 = .ok (.aload_n 0, 1) := by decide +kernel
theorem dX5_findLines_102 : decode cX5_findLines 102 = .ok (.getfield 23, 3) := by decide +kernel
theorem dX5_findLines_105 : decode cX5_findLines 105 = .ok (.iload_n 2, 1) := by decide +kernel
theorem dX5_findLines_106 : decode cX5_findLines 106 = .ok (.aload_n 0, 1) := by decide +kernel
theorem dX5_findLines_107 : decode cX5_findLines 107 = .ok (.getfield 20, 3) := by decide +kernel
theorem dX5_findLines_110 : decode cX5_findLines 110 = .ok (.iload_n 1, 1) := by decide +kernel
theorem dX5_findLines_111 : decode cX5_findLines 111 = .ok (.iconst 0, 1) := by decide +kernel
theorem dX5_findLines_112 : decode cX5_findLines 112 = .ok (.invokevirtual 101, 3) := by decide +kernel
theorem dX5_findLines_115 : decode cX5_findLines 115 = .ok (.iastore, 1) := by decide +kernel
theorem dX5_findLines_116 : decode cX5_findLines 116 = .ok (.iinc 1 1, 3) := by decide +kernel
theorem dX5_findLines_119 : decode cX5_findLines 119 = .ok (.goto (-96), 3) := by decide +kernel
theorem dX5_findLines_122 : decode cX5_findLines 122 = .ok (.iconst 1, 1) := by decide +kernel
theorem dX5_findLines_123 : decode cX5_findLines 123 = .ok (.istore_n 1, 1) := by decide +kernel
theorem dX5_findLines_124 : decode cX5_findLines 124 = .ok (.iload_n 1, 1) := by decide +kernel
theorem dX5_findLines_125 : decode cX5_findLines 125 = .ok (.bipush 99, 2) := by decide +kernel
theorem dX5_findLines_127 : decode cX5_findLines 127 = .ok (.if_icmp .gt 50, 3) := by decide +kernel
theorem dX5_findLines_130 : decode cX5_findLines 130 = .ok (.aload_n 0, 1) := by decide +kernel
theorem dX5_findLines_131 : decode cX5_findLines 131 = .ok (.getfield 23, 3) := by decide +kernel
theorem dX5_findLines_134 : decode cX5_findLines 134 = .ok (.iload_n 1, 1) := by decide +kernel
theorem dX5_findLines_135 : decode cX5_findLines 135 = .ok (.iconst 1, 1) := by decide +kernel
theorem dX5_findLines_136 : decode cX5_findLines 136 = .ok (.isub, 1) := by decide +kernel
theorem dX5_findLines_137 : decode cX5_findLines 137 = .ok (.iaload, 1) := by decide +kernel
theorem dX5_findLines_138 : decode cX5_findLines 138 = .ok (.istore_n 2, 1) := by decide +kernel
theorem dX5_findLines_139 : decode cX5_findLines 139 = .ok (.iload_n 2, 1) := by decide +kernel
theorem dX5_findLines_140 : decode cX5_findLines 140 = .ok (.iconst (-1), 1) := by decide +kernel
theorem dX5_findLines_141 : decode cX5_findLines 141 = .ok (.if_icmp .eq 30, 3) := by decide +kernel
theorem dX5_findLines_144 : decode cX5_findLines 144 = .ok (.aload_n 0, 1) := by decide +kernel
theorem dX5_findLines_145 : decode cX5_findLines 145 = .ok (.getfield 23, 3) := by decide +kernel
theorem dX5_findLines_148 : decode cX5_findLines 148 = .ok (.iload_n 1, 1) := by decide +kernel
theorem dX5_findLines_149 : decode cX5_findLines 149 = .ok (.iaload, 1) := by decide +kernel
theorem dX5_findLines_150 : decode cX5_findLines 150 = .ok (.iconst (-1), 1) := by decide +kernel
theorem dX5_findLines_151 : decode cX5_findLines 151 = .ok (.if_icmp .eq 13, 3) := by decide +kernel
theorem dX5_findLines_154 : decode cX5_findLines 154 = .ok (.iload_n 2, 1) := by decide +kernel
theorem dX5_findLines_155 : decode cX5_findLines 155 = .ok (.aload_n 0, 1) := by decide +kernel
theorem dX5_findLines_156 : decode cX5_findLines 156 = .ok (.getfield 23, 3) := by decide +kernel
theorem dX5_findLines_159 : decode cX5_findLines 159 = .ok (.iload_n 1, 1) := by decide +kernel
theorem dX5_findLines_160 : decode cX5_findLines 160 = .ok (.iaload, 1) := by decide +kernel
theorem dX5_findLines_161 : decode cX5_findLines 161 = .ok (.if_icmp .ge 10, 3) := by decide +kernel
theorem dX5_findLines_164 : decode cX5_findLines 164 = .ok (.aload_n 0, 1) := by decide +kernel
theorem dX5_findLines_165 : decode cX5_findLines 165 = .ok (.getfield 23, 3) := by decide +kernel
theorem dX5_findLines_168 : decode cX5_findLines 168 = .ok (.iload_n 1, 1) := by decide +kernel
theorem dX5_findLines_169 : decode cX5_findLines 169 = .ok (.iload_n 2, 1) := by decide +kernel
theorem dX5_findLines_170 : decode cX5_findLines 170 = .ok (.iastore, 1) := by decide +kernel
theorem dX5_findLines_171 : decode cX5_findLines 171 = .ok (.iinc 1 1, 3) := by decide +kernel
theorem dX5_findLines_174 : decode cX5_findLines 174 = .ok (.goto (-50), 3) := by decide +kernel
theorem dX5_findLines_177 : decode cX5_findLines 177 = .ok (.return_, 1) := by decide +kernel
theorem dX5_findShrinks_0 : decode cX5_findShrinks 0 = .ok (.aload_n 0, 1) := by decide +kernel
theorem dX5_findShrinks_1 : decode cX5_findShrinks 1 = .ok (.iconst 0, 1) := by decide +kernel
theorem dX5_findShrinks_2 : decode cX5_findShrinks 2 = .ok (.putfield 108, 3) := by decide +kernel
theorem dX5_findShrinks_5 : decode cX5_findShrinks 5 = .ok (.aload_n 0, 1) := by decide +kernel
theorem dX5_findShrinks_6 : decode cX5_findShrinks 6 = .ok (.iconst (-1), 1) := by decide +kernel
theorem dX5_findShrinks_7 : decode cX5_findShrinks 7 = .ok (.putfield 30, 3) := by decide +kernel
theorem dX5_findShrinks_10 : decode cX5_findShrinks 10 = .ok (.iconst 1, 1) := by decide +kernel
theorem dX5_findShrinks_11 : decode cX5_findShrinks 11 = .ok (.istore_n 1, 1) := by decide +kernel
theorem dX5_findShrinks_12 : decode cX5_findShrinks 12 = .ok (.iload_n 1, 1) := by decide +kernel
theorem dX5_findShrinks_13 : decode cX5_findShrinks 13 = .ok (.bipush 99, 2) := by decide +kernel
theorem dX5_findShrinks_15 : decode cX5_findShrinks 15 = .ok (.if_icmp .gt 81, 3) := by decide +kernel
theorem dX5_findShrinks_18 : decode cX5_findShrinks 18 = .ok (.aload_n 0, 1) := by decide +kernel
theorem dX5_findShrinks_19 : decode cX5_findShrinks 19 = .ok (.getfield 30, 3) := by decide +kernel
theorem dX5_findShrinks_22 : decode cX5_findShrinks 22 = .ok (.iconst (-1), 1) := by decide +kernel
theorem dX5_findShrinks_23 : decode cX5_findShrinks 23 = .ok (.if_icmp .ne 18, 3) := by decide +kernel
theorem dX5_findShrinks_26 : decode cX5_findShrinks 26 = .ok (.aload_n 0, 1) := by decide +kernel
theorem dX5_findShrinks_27 : decode cX5_findShrinks 27 = .ok (.getfield 23, 3) := by decide +kernel
theorem dX5_findShrinks_30 : decode cX5_findShrinks 30 = .ok (.iload_n 1, 1) := by decide +kernel
theorem dX5_findShrinks_31 : decode cX5_findShrinks 31 = .ok (.iaload, 1) := by decide +kernel
theorem dX5_findShrinks_32 : decode cX5_findShrinks 32 = .ok (.iconst (-1), 1) := by decide +kernel
theorem dX5_findShrinks_33 : decode cX5_findShrinks 33 = .ok (.if_icmp .eq 8, 3) := by decide +kernel
theorem dX5_findShrinks_36 : decode cX5_findShrinks 36 = .ok (.aload_n 0, 1) := by decide +kernel
theorem dX5_findShrinks_37 : decode cX5_findShrinks 37 = .ok (.iload_n 1, 1) := by decide +kernel
theorem dX5_findShrinks_38 : decode cX5_findShrinks 38 = .ok (.putfield 30, 3) := by decide +kernel
theorem dX5_findShrinks_41 : decode cX5_findShrinks 41 = .ok (.aload_n 0, 1) := by decide +kernel
theorem dX5_findShrinks_42 : decode cX5_findShrinks 42 = .ok (.getfield 23, 3) := by decide +kernel
theorem dX5_findShrinks_45 : decode cX5_findShrinks 45 = .ok (.iload_n 1, 1) := by decide +kernel
theorem dX5_findShrinks_46 : decode cX5_findShrinks 46 = .ok (.iaload, 1) := by decide +kernel
theorem dX5_findShrinks_47 : decode cX5_findShrinks 47 = .ok (.aload_n 0, 1) := by decide +kernel
theorem dX5_findShrinks_48 : decode cX5_findShrinks 48 = .ok (.getfield 23, 3) := by decide +kernel
theorem dX5_findShrinks_51 : decode cX5_findShrinks 51 = .ok (.iload_n 1, 1) := by decide +kernel
theorem dX5_findShrinks_52 : decode cX5_findShrinks 52 = .ok (.iconst 1, 1) := by decide +kernel
theorem dX5_findShrinks_53 : decode cX5_findShrinks 53 = .ok (.isub, 1) := by decide +kernel
theorem dX5_findShrinks_54 : decode cX5_findShrinks 54 = .ok (.iaload, 1) := by decide +kernel
theorem dX5_findShrinks_55 : decode cX5_findShrinks 55 = .ok (.if_icmp .ge 35, 3) := by decide +kernel
theorem dX5_findShrinks_58 : decode cX5_findShrinks 58 = .ok (.aload_n 0, 1) := by decide +kernel
theorem dX5_findShrinks_59 : decode cX5_findShrinks 59 = .ok (.getfield 108, 3) := by decide +kernel
theorem dX5_findShrinks_62 : decode cX5_findShrinks 62 = .ok (.aload_n 0, 1) := by decide +kernel
theorem dX5_findShrinks_63 : decode cX5_findShrinks 63 = .ok (.getfield 27, 3) := by decide +kernel
theorem dX5_findShrinks_66 : decode cX5_findShrinks 66 = .ok (.arraylength, 1) := by decide +kernel
theorem dX5_findShrinks_67 : decode cX5_findShrinks 67 = .ok (.if_icmp .ge 23, 3) := by decide +kernel
theorem dX5_findShrinks_70 : decode cX5_findShrinks 70 = .ok (.aload_n 0, 1) := by decide +kernel
theorem dX5_findShrinks_71 : decode cX5_findShrinks 71 = .ok (.getfield 27, 3) := by decide +kernel
theorem dX5_findShrinks_74 : decode cX5_findShrinks 74 = .ok (.aload_n 0, 1) := by decide +kernel
theorem dX5_findShrinks_75 : decode cX5_findShrinks 75 = .ok (.getfield 108, 3) := by decide +kernel
theorem dX5_findShrinks_78 : decode cX5_findShrinks 78 = .ok (.iload_n 1, 1) := by decide +kernel
theorem dX5_findShrinks_79 : decode cX5_findShrinks 79 = .ok (.iastore, 1) := by decide +kernel
theorem dX5_findShrinks_80 : decode cX5_findShrinks 80 = .ok (.aload_n 0, 1) := by decide +kernel
theorem dX5_findShrinks_81 : decode cX5_findShrinks 81 = .ok (.dup, 1) := by decide +kernel
theorem dX5_findShrinks_82 : decode cX5_findShrinks 82 = .ok (.getfield 108, 3) := by decide +kernel
theorem dX5_findShrinks_85 : decode cX5_findShrinks 85 = .ok (.iconst 1, 1) := by decide +kernel
theorem dX5_findShrinks_86 : decode cX5_findShrinks 86 = .ok (.iadd, 1) := by decide +kernel
theorem dX5_findShrinks_87 : decode cX5_findShrinks 87 = .ok (.putfield 108, 3) := by decide +kernel
theorem dX5_findShrinks_90 : decode cX5_findShrinks 90 = .ok (.iinc 1 1, 3) := by decide +kernel
theorem dX5_findShrinks_93 : decode cX5_findShrinks 93 = .ok (.goto (-81), 3) := by decide +kernel
theorem dX5_findShrinks_96 : decode cX5_findShrinks 96 = .ok (.return_, 1) := by decide +kernel
theorem dX5_shrinkAt_0 : decode cX5_shrinkAt 0 = .ok (.iload_n 1, 1) := by decide +kernel
theorem dX5_shrinkAt_1 : decode cX5_shrinkAt 1 = .ok (.ifCond .lt 29, 3) := by decide +kernel
theorem dX5_shrinkAt_4 : decode cX5_shrinkAt 4 = .ok (.iload_n 1, 1) := by decide +kernel
theorem dX5_shrinkAt_5 : decode cX5_shrinkAt 5 = .ok (.aload_n 0, 1) := by decide +kernel
theorem dX5_shrinkAt_6 : decode cX5_shrinkAt 6 = .ok (.getfield 108, 3) := by decide +kernel
theorem dX5_shrinkAt_9 : decode cX5_shrinkAt 9 = .ok (.if_icmp .ge 21, 3) := by decide +kernel
theorem dX5_shrinkAt_12 : decode cX5_shrinkAt 12 = .ok (.iload_n 1, 1) := by decide +kernel
theorem dX5_shrinkAt_13 : decode cX5_shrinkAt 13 = .ok (.aload_n 0, 1) := by decide +kernel
theorem dX5_shrinkAt_14 : decode cX5_shrinkAt 14 = .ok (.getfield 27, 3) := by decide +kernel
theorem dX5_shrinkAt_17 : decode cX5_shrinkAt 17 = .ok (.arraylength, 1) := by decide +kernel
theorem dX5_shrinkAt_18 : decode cX5_shrinkAt 18 = .ok (.if_icmp .ge 12, 3) := by decide +kernel
theorem dX5_shrinkAt_21 : decode cX5_shrinkAt 21 = .ok (.aload_n 0, 1) := by decide +kernel
theorem dX5_shrinkAt_22 : decode cX5_shrinkAt 22 = .ok (.getfield 27, 3) := by decide +kernel
theorem dX5_shrinkAt_25 : decode cX5_shrinkAt 25 = .ok (.iload_n 1, 1) := by decide +kernel
theorem dX5_shrinkAt_26 : decode cX5_shrinkAt 26 = .ok (.iaload, 1) := by decide +kernel
theorem dX5_shrinkAt_27 : decode cX5_shrinkAt 27 = .ok (.goto 4, 3) := by decide +kernel
theorem dX5_shrinkAt_30 : decode cX5_shrinkAt 30 = .ok (.iconst (-1), 1) := by decide +kernel
theorem dX5_shrinkAt_31 : decode cX5_shrinkAt 31 = .ok (.ireturn, 1) := by decide +kernel
theorem dX5_tell_0 : decode cX5_tell 0 = .ok (.aload_n 0, 1) := by decide +kernel
theorem dX5_tell_1 : decode cX5_tell 1 = .ok (.getfield 41, 3) := by decide +kernel
theorem dX5_tell_4 : decode cX5_tell 4 = .ok (.ifCond .ne 5, 3) := by decide +kernel
theorem dX5_tell_7 : decode cX5_tell 7 = .ok (.iconst (-1), 1) := by decide +kernel
theorem dX5_tell_8 : decode cX5_tell 8 = .ok (.ireturn, 1) := by decide +kernel
theorem dX5_tell_9 : decode cX5_tell 9 = .ok (.iload_n 1, 1) := by decide +kernel
theorem dX5_tell_10 : decode cX5_tell 10 = .ok (.aload_n 0, 1) := by decide +kernel
theorem dX5_tell_11 : decode cX5_tell 11 = .ok (.getfield 41, 3) := by decide +kernel
theorem dX5_tell_14 : decode cX5_tell 14 = .ok (.iconst 1, 1) := by decide +kernel
theorem dX5_tell_15 : decode cX5_tell 15 = .ok (.isub, 1) := by decide +kernel
theorem dX5_tell_16 : decode cX5_tell 16 = .ok (.iand, 1) := by decide +kernel
theorem dX5_tell_17 : decode cX5_tell 17 = .ok (.istore_n 3, 1) := by decide +kernel
theorem dX5_tell_18 : decode cX5_tell 18 = .ok (.aload_n 0, 1) := by decide +kernel
theorem dX5_tell_19 : decode cX5_tell 19 = .ok (.getfield 20, 3) := by decide +kernel
theorem dX5_tell_22 : decode cX5_tell 22 = .ok (.iload_n 3, 1) := by decide +kernel
theorem dX5_tell_23 : decode cX5_tell 23 = .ok (.iconst 0, 1) := by decide +kernel
theorem dX5_tell_24 : decode cX5_tell 24 = .ok (.invokevirtual 101, 3) := by decide +kernel
theorem dX5_tell_27 : decode cX5_tell 27 = .ok (.ifCond .le 15, 3) := by decide +kernel
theorem dX5_tell_30 : decode cX5_tell 30 = .ok (.aload_n 0, 1) := by decide +kernel
theorem dX5_tell_31 : decode cX5_tell 31 = .ok (.getfield 20, 3) := by decide +kernel
theorem dX5_tell_34 : decode cX5_tell 34 = .ok (.iload_n 3, 1) := by decide +kernel
theorem dX5_tell_35 : decode cX5_tell 35 = .ok (.iload_n 2, 1) := by decide +kernel
theorem dX5_tell_36 : decode cX5_tell 36 = .ok (.invokevirtual 101, 3) := by decide +kernel
theorem dX5_tell_39 : decode cX5_tell 39 = .ok (.goto 4, 3) := by decide +kernel
theorem dX5_tell_42 : decode cX5_tell 42 = .ok (.iconst (-1), 1) := by decide +kernel
theorem dX5_tell_43 : decode cX5_tell 43 = .ok (.ireturn, 1) := by decide +kernel
theorem dX5_hasty_0 : decode cX5_hasty 0 = .ok (.aload_n 0, 1) := by decide +kernel
theorem dX5_hasty_1 : decode cX5_hasty 1 = .ok (.iconst 0, 1) := by decide +kernel
theorem dX5_hasty_2 : decode cX5_hasty 2 = .ok (.iconst 0, 1) := by decide +kernel
theorem dX5_hasty_3 : decode cX5_hasty 3 = .ok (.iload_n 2, 1) := by decide +kernel
theorem dX5_hasty_4 : decode cX5_hasty 4 = .ok (.invokevirtual 111, 3) := by decide +kernel
theorem dX5_hasty_7 : decode cX5_hasty 7 = .ok (.ifCond .ne 5, 3) := by decide +kernel
theorem dX5_hasty_10 : decode cX5_hasty 10 = .ok (.iconst (-1), 1) := by decide +kernel
theorem dX5_hasty_11 : decode cX5_hasty 11 = .ok (.ireturn, 1) := by decide +kernel
theorem dX5_hasty_12 : decode cX5_hasty 12 = .ok (.iconst 0, 1) := by decide +kernel
theorem dX5_hasty_13 : decode cX5_hasty 13 = .ok (.istore_n 3, 1) := by decide +kernel
theorem dX5_hasty_14 : decode cX5_hasty 14 = .ok (.iconst 0, 1) := by decide +kernel
theorem dX5_hasty_15 : decode cX5_hasty 15 = .ok (.istore 4, 2) := by decide +kernel
theorem dX5_hasty_17 : decode cX5_hasty 17 = .ok (.iload 4, 2) := by decide +kernel
theorem dX5_hasty_19 : decode cX5_hasty 19 = .ok (.iload_n 1, 1) := by decide +kernel
theorem dX5_hasty_20 : decode cX5_hasty 20 = .ok (.if_icmp .ge 42, 3) := by decide +kernel
theorem dX5_hasty_23 : decode cX5_hasty 23 = .ok (.iload 4, 2) := by decide +kernel
theorem dX5_hasty_25 : decode cX5_hasty 25 = .ok (.bipush 6, 2) := by decide +kernel
theorem dX5_hasty_27 : decode cX5_hasty 27 = .ok (.if_icmp .ge 35, 3) := by decide +kernel
theorem dX5_hasty_30 : decode cX5_hasty 30 = .ok (.iconst 2, 1) := by decide +kernel
theorem dX5_hasty_31 : decode cX5_hasty 31 = .ok (.iload 4, 2) := by decide +kernel
theorem dX5_hasty_33 : decode cX5_hasty 33 = .ok (.ishl, 1) := by decide +kernel
theorem dX5_hasty_34 : decode cX5_hasty 34 = .ok (.iconst 1, 1) := by decide +kernel
theorem dX5_hasty_35 : decode cX5_hasty 35 = .ok (.isub, 1) := by decide +kernel
theorem dX5_hasty_36 : decode cX5_hasty 36 = .ok (.istore 5, 2) := by decide +kernel
theorem dX5_hasty_38 : decode cX5_hasty 38 = .ok (.aload_n 0, 1) := by decide +kernel
theorem dX5_hasty_39 : decode cX5_hasty 39 = .ok (.iload 5, 2) := by decide +kernel
theorem dX5_hasty_41 : decode cX5_hasty 41 = .ok (.iload_n 3, 1) := by decide +kernel
theorem dX5_hasty_42 : decode cX5_hasty 42 = .ok (.iload_n 2, 1) := by decide +kernel
theorem dX5_hasty_43 : decode cX5_hasty 43 = .ok (.invokevirtual 111, 3) := by decide +kernel
theorem dX5_hasty_46 : decode cX5_hasty 46 = .ok (.ifCond .ne 10, 3) := by decide +kernel
theorem dX5_hasty_49 : decode cX5_hasty 49 = .ok (.iload_n 3, 1) := by decide +kernel
theorem dX5_hasty_50 : decode cX5_hasty 50 = .ok (.iconst 1, 1) := by decide +kernel
theorem dX5_hasty_51 : decode cX5_hasty 51 = .ok (.iload 4, 2) := by decide +kernel
theorem dX5_hasty_53 : decode cX5_hasty 53 = .ok (.ishl, 1) := by decide +kernel
theorem dX5_hasty_54 : decode cX5_hasty 54 = .ok (.ior, 1) := by decide +kernel
theorem dX5_hasty_55 : decode cX5_hasty 55 = .ok (.istore_n 3, 1) := by decide +kernel
theorem dX5_hasty_56 : decode cX5_hasty 56 = .ok (.iinc 4 1, 3) := by decide +kernel
theorem dX5_hasty_59 : decode cX5_hasty 59 = .ok (.goto (-42), 3) := by decide +kernel
theorem dX5_hasty_62 : decode cX5_hasty 62 = .ok (.iload_n 3, 1) := by decide +kernel
theorem dX5_hasty_63 : decode cX5_hasty 63 = .ok (.ireturn, 1) := by decide +kernel
theorem dX5_isAny_0 : decode cX5_isAny 0 = .ok (.iconst 0, 1) := by decide +kernel
theorem dX5_isAny_1 : decode cX5_isAny 1 = .ok (.istore 4, 2) := by decide +kernel
theorem dX5_isAny_3 : decode cX5_isAny 3 = .ok (.iload 4, 2) := by decide +kernel
theorem dX5_isAny_5 : decode cX5_isAny 5 = .ok (.aload_n 0, 1) := by decide +kernel
theorem dX5_isAny_6 : decode cX5_isAny 6 = .ok (.getfield 41, 3) := by decide +kernel
theorem dX5_isAny_9 : decode cX5_isAny 9 = .ok (.if_icmp .ge 37, 3) := by decide +kernel
theorem dX5_isAny_12 : decode cX5_isAny 12 = .ok (.aload_n 0, 1) := by decide +kernel
theorem dX5_isAny_13 : decode cX5_isAny 13 = .ok (.iload 4, 2) := by decide +kernel
theorem dX5_isAny_15 : decode cX5_isAny 15 = .ok (.iload_n 3, 1) := by decide +kernel
theorem dX5_isAny_16 : decode cX5_isAny 16 = .ok (.invokevirtual 115, 3) := by decide +kernel
theorem dX5_isAny_19 : decode cX5_isAny 19 = .ok (.ifCond .eq 21, 3) := by decide +kernel
theorem dX5_isAny_22 : decode cX5_isAny 22 = .ok (.aload_n 0, 1) := by decide +kernel
theorem dX5_isAny_23 : decode cX5_isAny 23 = .ok (.getfield 20, 3) := by decide +kernel
theorem dX5_isAny_26 : decode cX5_isAny 26 = .ok (.iload 4, 2) := by decide +kernel
theorem dX5_isAny_28 : decode cX5_isAny 28 = .ok (.iconst 3, 1) := by decide +kernel
theorem dX5_isAny_29 : decode cX5_isAny 29 = .ok (.invokevirtual 101, 3) := by decide +kernel
theorem dX5_isAny_32 : decode cX5_isAny 32 = .ok (.iload_n 1, 1) := by decide +kernel
theorem dX5_isAny_33 : decode cX5_isAny 33 = .ok (.iand, 1) := by decide +kernel
theorem dX5_isAny_34 : decode cX5_isAny 34 = .ok (.iload_n 2, 1) := by decide +kernel
theorem dX5_isAny_35 : decode cX5_isAny 35 = .ok (.if_icmp .ne 5, 3) := by decide +kernel
theorem dX5_isAny_38 : decode cX5_isAny 38 = .ok (.iconst 1, 1) := by decide +kernel
theorem dX5_isAny_39 : decode cX5_isAny 39 = .ok (.ireturn, 1) := by decide +kernel
theorem dX5_isAny_40 : decode cX5_isAny 40 = .ok (.iinc 4 1, 3) := by decide +kernel
theorem dX5_isAny_43 : decode cX5_isAny 43 = .ok (.goto (-40), 3) := by decide +kernel
theorem dX5_isAny_46 : decode cX5_isAny 46 = .ok (.iconst 0, 1) := by decide +kernel
theorem dX5_isAny_47 : decode cX5_isAny 47 = .ok (.ireturn, 1) := by decide +kernel
theorem dX5_fits_0 : decode cX5_fits 0 = .ok (.aload_n 0, 1) := by decide +kernel
theorem dX5_fits_1 : decode cX5_fits 1 = .ok (.getfield 20, 3) := by decide +kernel
theorem dX5_fits_4 : decode cX5_fits 4 = .ok (.iload_n 1, 1) := by decide +kernel
theorem dX5_fits_5 : decode cX5_fits 5 = .ok (.iconst 0, 1) := by decide +kernel
theorem dX5_fits_6 : decode cX5_fits 6 = .ok (.invokevirtual 101, 3) := by decide +kernel
theorem dX5_fits_9 : decode cX5_fits 9 = .ok (.ifCond .le 20, 3) := by decide +kernel
theorem dX5_fits_12 : decode cX5_fits 12 = .ok (.aload_n 0, 1) := by decide +kernel
theorem dX5_fits_13 : decode cX5_fits 13 = .ok (.getfield 20, 3) := by decide +kernel
theorem dX5_fits_16 : decode cX5_fits 16 = .ok (.iload_n 1, 1) := by decide +kernel
theorem dX5_fits_17 : decode cX5_fits 17 = .ok (.iconst 2, 1) := by decide +kernel
theorem dX5_fits_18 : decode cX5_fits 18 = .ok (.invokevirtual 101, 3) := by decide +kernel
theorem dX5_fits_21 : decode cX5_fits 21 = .ok (.iload_n 2, 1) := by decide +kernel
theorem dX5_fits_22 : decode cX5_fits 22 = .ok (.if_icmp .gt 7, 3) := by decide +kernel
theorem dX5_fits_25 : decode cX5_fits 25 = .ok (.iconst 1, 1) := by decide +kernel
theorem dX5_fits_26 : decode cX5_fits 26 = .ok (.goto 4, 3) := by decide +kernel
theorem dX5_fits_29 : decode cX5_fits 29 = .ok (.iconst 0, 1) := by decide +kernel
theorem dX5_fits_30 : decode cX5_fits 30 = .ok (.ireturn, 1) := by decide +kernel
theorem dX5_fewestLines_0 : decode cX5_fewestLines 0 = .ok (.iconst (-1), 1) := by decide +kernel
theorem dX5_fewestLines_1 : decode cX5_fewestLines 1 = .ok (.istore_n 3, 1) := by decide +kernel
theorem dX5_fewestLines_2 : decode cX5_fewestLines 2 = .ok (.iconst 0, 1) := by decide +kernel
theorem dX5_fewestLines_3 : decode cX5_fewestLines 3 = .ok (.istore 4, 2) := by decide +kernel
theorem dX5_fewestLines_5 : decode cX5_fewestLines 5 = .ok (.iload 4, 2) := by decide +kernel
theorem dX5_fewestLines_7 : decode cX5_fewestLines 7 = .ok (.aload_n 0, 1) := by decide +kernel
theorem dX5_fewestLines_8 : decode cX5_fewestLines 8 = .ok (.getfield 41, 3) := by decide +kernel
theorem dX5_fewestLines_11 : decode cX5_fewestLines 11 = .ok (.if_icmp .ge 67, 3) := by decide +kernel
theorem dX5_fewestLines_14 : decode cX5_fewestLines 14 = .ok (.aload_n 0, 1) := by decide +kernel
theorem dX5_fewestLines_15 : decode cX5_fewestLines 15 = .ok (.iload 4, 2) := by decide +kernel
theorem dX5_fewestLines_17 : decode cX5_fewestLines 17 = .ok (.iload_n 2, 1) := by decide +kernel
theorem dX5_fewestLines_18 : decode cX5_fewestLines 18 = .ok (.invokevirtual 115, 3) := by decide +kernel
theorem dX5_fewestLines_21 : decode cX5_fewestLines 21 = .ok (.ifCond .eq 22, 3) := by decide +kernel
theorem dX5_fewestLines_24 : decode cX5_fewestLines 24 = .ok (.aload_n 0, 1) := by decide +kernel
theorem dX5_fewestLines_25 : decode cX5_fewestLines 25 = .ok (.getfield 20, 3) := by decide +kernel
theorem dX5_fewestLines_28 : decode cX5_fewestLines 28 = .ok (.iload 4, 2) := by decide +kernel
theorem dX5_fewestLines_30 : decode cX5_fewestLines 30 = .ok (.iconst 3, 1) := by decide +kernel
theorem dX5_fewestLines_31 : decode cX5_fewestLines 31 = .ok (.invokevirtual 101, 3) := by decide +kernel
theorem dX5_fewestLines_34 : decode cX5_fewestLines 34 = .ok (.iload_n 1, 1) := by decide +kernel
theorem dX5_fewestLines_35 : decode cX5_fewestLines 35 = .ok (.iand, 1) := by decide +kernel
theorem dX5_fewestLines_36 : decode cX5_fewestLines 36 = .ok (.ifCond .ne 7, 3) := by decide +kernel
theorem dX5_fewestLines_39 : decode cX5_fewestLines 39 = .ok (.iconst 1, 1) := by decide +kernel
theorem dX5_fewestLines_40 : decode cX5_fewestLines 40 = .ok (.goto 4, 3) := by decide +kernel
theorem dX5_fewestLines_43 : decode cX5_fewestLines 43 = .ok (.iconst 0, 1) := by decide +kernel
theorem dX5_fewestLines_44 : decode cX5_fewestLines 44 = .ok (.istore 5, 2) := by decide +kernel
theorem dX5_fewestLines_46 : decode cX5_fewestLines 46 = .ok (.iload 5, 2) := by decide +kernel
theorem dX5_fewestLines_48 : decode cX5_fewestLines 48 = .ok (.ifCond .eq 24, 3) := by decide +kernel
theorem dX5_fewestLines_51 : decode cX5_fewestLines 51 = .ok (.iload_n 3, 1) := by decide +kernel
theorem dX5_fewestLines_52 : decode cX5_fewestLines 52 = .ok (.iconst (-1), 1) := by decide +kernel
theorem dX5_fewestLines_53 : decode cX5_fewestLines 53 = .ok (.if_icmp .eq 16, 3) := by decide +kernel
theorem dX5_fewestLines_56 : decode cX5_fewestLines 56 = .ok (.aload_n 0, 1) := by decide +kernel
theorem dX5_fewestLines_57 : decode cX5_fewestLines 57 = .ok (.getfield 20, 3) := by decide +kernel
theorem dX5_fewestLines_60 : decode cX5_fewestLines 60 = .ok (.iload 4, 2) := by decide +kernel
theorem dX5_fewestLines_62 : decode cX5_fewestLines 62 = .ok (.iload_n 3, 1) := by decide +kernel
theorem dX5_fewestLines_63 : decode cX5_fewestLines 63 = .ok (.invokevirtual 119, 3) := by decide +kernel
theorem dX5_fewestLines_66 : decode cX5_fewestLines 66 = .ok (.ifCond .eq 6, 3) := by decide +kernel
theorem dX5_fewestLines_69 : decode cX5_fewestLines 69 = .ok (.iload 4, 2) := by decide +kernel
theorem dX5_fewestLines_71 : decode cX5_fewestLines 71 = .ok (.istore_n 3, 1) := by decide +kernel
theorem dX5_fewestLines_72 : decode cX5_fewestLines 72 = .ok (.iinc 4 1, 3) := by decide +kernel
theorem dX5_fewestLines_75 : decode cX5_fewestLines 75 = .ok (.goto (-70), 3) := by decide +kernel
theorem dX5_fewestLines_78 : decode cX5_fewestLines 78 = .ok (.aload_n 0, 1) := by decide +kernel
theorem dX5_fewestLines_79 : decode cX5_fewestLines 79 = .ok (.getfield 20, 3) := by decide +kernel
theorem dX5_fewestLines_82 : decode cX5_fewestLines 82 = .ok (.iload_n 3, 1) := by decide +kernel
theorem dX5_fewestLines_83 : decode cX5_fewestLines 83 = .ok (.iconst 0, 1) := by decide +kernel
theorem dX5_fewestLines_84 : decode cX5_fewestLines 84 = .ok (.invokevirtual 101, 3) := by decide +kernel
theorem dX5_fewestLines_87 : decode cX5_fewestLines 87 = .ok (.ireturn, 1) := by decide +kernel
theorem dX5_linesOfLeastMost_0 : decode cX5_linesOfLeastMost 0 = .ok (.iconst (-1), 1) := by decide +kernel
theorem dX5_linesOfLeastMost_1 : decode cX5_linesOfLeastMost 1 = .ok (.istore_n 2, 1) := by decide +kernel
theorem dX5_linesOfLeastMost_2 : decode cX5_linesOfLeastMost 2 = .ok (.iconst 0, 1) := by decide +kernel
theorem dX5_linesOfLeastMost_3 : decode cX5_linesOfLeastMost 3 = .ok (.istore_n 3, 1) := by decide +kernel
theorem dX5_linesOfLeastMost_4 : decode cX5_linesOfLeastMost 4 = .ok (.iload_n 3, 1) := by decide +kernel
theorem dX5_linesOfLeastMost_5 : decode cX5_linesOfLeastMost 5 = .ok (.aload_n 0, 1) := by decide +kernel
theorem dX5_linesOfLeastMost_6 : decode cX5_linesOfLeastMost 6 = .ok (.getfield 41, 3) := by decide +kernel
theorem dX5_linesOfLeastMost_9 : decode cX5_linesOfLeastMost 9 = .ok (.if_icmp .ge 65, 3) := by decide +kernel
theorem dX5_linesOfLeastMost_12 : decode cX5_linesOfLeastMost 12 = .ok (.aload_n 0, 1) := by decide +kernel
theorem dX5_linesOfLeastMost_13 : decode cX5_linesOfLeastMost 13 = .ok (.iload_n 3, 1) := by decide +kernel
theorem dX5_linesOfLeastMost_14 : decode cX5_linesOfLeastMost 14 = .ok (.sipush 1000, 3) := by decide +kernel
theorem dX5_linesOfLeastMost_17 : decode cX5_linesOfLeastMost 17 = .ok (.invokevirtual 115, 3) := by decide +kernel
theorem dX5_linesOfLeastMost_20 : decode cX5_linesOfLeastMost 20 = .ok (.ifCond .eq 21, 3) := by decide +kernel
theorem dX5_linesOfLeastMost_23 : decode cX5_linesOfLeastMost 23 = .ok (.aload_n 0, 1) := by decide +kernel
theorem dX5_linesOfLeastMost_24 : decode cX5_linesOfLeastMost 24 = .ok (.getfield 20, 3) := by decide +kernel
theorem dX5_linesOfLeastMost_27 : decode cX5_linesOfLeastMost 27 = .ok (.iload_n 3, 1) := by decide +kernel
theorem dX5_linesOfLeastMost_28 : decode cX5_linesOfLeastMost 28 = .ok (.iconst 3, 1) := by decide +kernel
theorem dX5_linesOfLeastMost_29 : decode cX5_linesOfLeastMost 29 = .ok (.invokevirtual 101, 3) := by decide +kernel
theorem dX5_linesOfLeastMost_32 : decode cX5_linesOfLeastMost 32 = .ok (.iload_n 1, 1) := by decide +kernel
theorem dX5_linesOfLeastMost_33 : decode cX5_linesOfLeastMost 33 = .ok (.iand, 1) := by decide +kernel
theorem dX5_linesOfLeastMost_34 : decode cX5_linesOfLeastMost 34 = .ok (.ifCond .ne 7, 3) := by decide +kernel
theorem dX5_linesOfLeastMost_37 : decode cX5_linesOfLeastMost 37 = .ok (.iconst 1, 1) := by decide +kernel
theorem dX5_linesOfLeastMost_38 : decode cX5_linesOfLeastMost 38 = .ok (.goto 4, 3) := by decide +kernel
theorem dX5_linesOfLeastMost_41 : decode cX5_linesOfLeastMost 41 = .ok (.iconst 0, 1) := by decide +kernel
theorem dX5_linesOfLeastMost_42 : decode cX5_linesOfLeastMost 42 = .ok (.istore 4, 2) := by decide +kernel
theorem dX5_linesOfLeastMost_44 : decode cX5_linesOfLeastMost 44 = .ok (.iload 4, 2) := by decide +kernel
theorem dX5_linesOfLeastMost_46 : decode cX5_linesOfLeastMost 46 = .ok (.ifCond .eq 22, 3) := by decide +kernel
theorem dX5_linesOfLeastMost_49 : decode cX5_linesOfLeastMost 49 = .ok (.iload_n 2, 1) := by decide +kernel
theorem dX5_linesOfLeastMost_50 : decode cX5_linesOfLeastMost 50 = .ok (.iconst (-1), 1) := by decide +kernel
theorem dX5_linesOfLeastMost_51 : decode cX5_linesOfLeastMost 51 = .ok (.if_icmp .eq 15, 3) := by decide +kernel
theorem dX5_linesOfLeastMost_54 : decode cX5_linesOfLeastMost 54 = .ok (.aload_n 0, 1) := by decide +kernel
theorem dX5_linesOfLeastMost_55 : decode cX5_linesOfLeastMost 55 = .ok (.getfield 20, 3) := by decide +kernel
theorem dX5_linesOfLeastMost_58 : decode cX5_linesOfLeastMost 58 = .ok (.iload_n 3, 1) := by decide +kernel
theorem dX5_linesOfLeastMost_59 : decode cX5_linesOfLeastMost 59 = .ok (.iload_n 2, 1) := by decide +kernel
theorem dX5_linesOfLeastMost_60 : decode cX5_linesOfLeastMost 60 = .ok (.invokevirtual 122, 3) := by decide +kernel
theorem dX5_linesOfLeastMost_63 : decode cX5_linesOfLeastMost 63 = .ok (.ifCond .eq 5, 3) := by decide +kernel
theorem dX5_linesOfLeastMost_66 : decode cX5_linesOfLeastMost 66 = .ok (.iload_n 3, 1) := by decide +kernel
theorem dX5_linesOfLeastMost_67 : decode cX5_linesOfLeastMost 67 = .ok (.istore_n 2, 1) := by decide +kernel
theorem dX5_linesOfLeastMost_68 : decode cX5_linesOfLeastMost 68 = .ok (.iinc 3 1, 3) := by decide +kernel
theorem dX5_linesOfLeastMost_71 : decode cX5_linesOfLeastMost 71 = .ok (.goto (-67), 3) := by decide +kernel
theorem dX5_linesOfLeastMost_74 : decode cX5_linesOfLeastMost 74 = .ok (.aload_n 0, 1) := by decide +kernel
theorem dX5_linesOfLeastMost_75 : decode cX5_linesOfLeastMost 75 = .ok (.getfield 20, 3) := by decide +kernel
theorem dX5_linesOfLeastMost_78 : decode cX5_linesOfLeastMost 78 = .ok (.iload_n 2, 1) := by decide +kernel
theorem dX5_linesOfLeastMost_79 : decode cX5_linesOfLeastMost 79 = .ok (.iconst 0, 1) := by decide +kernel
theorem dX5_linesOfLeastMost_80 : decode cX5_linesOfLeastMost 80 = .ok (.invokevirtual 101, 3) := by decide +kernel
theorem dX5_linesOfLeastMost_83 : decode cX5_linesOfLeastMost 83 = .ok (.ireturn, 1) := by decide +kernel
end
section
theorem dX6_init_0 : decode cX6_init 0 = .ok (.aload_n 0, 1) := by decide +kernel
theorem dX6_init_1 : decode cX6_init 1 = .ok (.invokespecial 1, 3) := by decide +kernel
theorem dX6_init_4 : decode cX6_init 4 = .ok (.aload_n 0, 1) := by decide +kernel
theorem dX6_init_5 : decode cX6_init 5 = .ok (.new 7, 3) := by decide +kernel
theorem dX6_init_8 : decode cX6_init 8 = .ok (.dup, 1) := by decide +kernel
theorem dX6_init_9 : decode cX6_init 9 = .ok (.invokespecial 9, 3) := by decide +kernel
theorem dX6_init_12 : decode cX6_init 12 = .ok (.putfield 10, 3) := by decide +kernel
theorem dX6_init_15 : decode cX6_init 15 = .ok (.aload_n 0, 1) := by decide +kernel
theorem dX6_init_16 : decode cX6_init 16 = .ok (.new 16, 3) := by decide +kernel
theorem dX6_init_19 : decode cX6_init 19 = .ok (.dup, 1) := by decide +kernel
theorem dX6_init_20 : decode cX6_init 20 = .ok (.invokespecial 18, 3) := by decide +kernel
theorem dX6_init_23 : decode cX6_init 23 = .ok (.putfield 19, 3) := by decide +kernel
theorem dX6_init_26 : decode cX6_init 26 = .ok (.aload_n 0, 1) := by decide +kernel
theorem dX6_init_27 : decode cX6_init 27 = .ok (.new 23, 3) := by decide +kernel
theorem dX6_init_30 : decode cX6_init 30 = .ok (.dup, 1) := by decide +kernel
theorem dX6_init_31 : decode cX6_init 31 = .ok (.iconst 1, 1) := by decide +kernel
theorem dX6_init_32 : decode cX6_init 32 = .ok (.invokespecial 25, 3) := by decide +kernel
theorem dX6_init_35 : decode cX6_init 35 = .ok (.putfield 28, 3) := by decide +kernel
theorem dX6_init_38 : decode cX6_init 38 = .ok (.aload_n 0, 1) := by decide +kernel
theorem dX6_init_39 : decode cX6_init 39 = .ok (.new 32, 3) := by decide +kernel
theorem dX6_init_42 : decode cX6_init 42 = .ok (.dup, 1) := by decide +kernel
theorem dX6_init_43 : decode cX6_init 43 = .ok (.invokespecial 34, 3) := by decide +kernel
theorem dX6_init_46 : decode cX6_init 46 = .ok (.putfield 35, 3) := by decide +kernel
theorem dX6_init_49 : decode cX6_init 49 = .ok (.aload_n 0, 1) := by decide +kernel
theorem dX6_init_50 : decode cX6_init 50 = .ok (.new 39, 3) := by decide +kernel
theorem dX6_init_53 : decode cX6_init 53 = .ok (.dup, 1) := by decide +kernel
theorem dX6_init_54 : decode cX6_init 54 = .ok (.invokespecial 41, 3) := by decide +kernel
theorem dX6_init_57 : decode cX6_init 57 = .ok (.putfield 42, 3) := by decide +kernel
theorem dX6_init_60 : decode cX6_init 60 = .ok (.aload_n 0, 1) := by decide +kernel
theorem dX6_init_61 : decode cX6_init 61 = .ok (.iconst 4, 1) := by decide +kernel
theorem dX6_init_62 : decode cX6_init 62 = .ok (.anewarray 46, 3) := by decide +kernel
theorem dX6_init_65 : decode cX6_init 65 = .ok (.putfield 48, 3) := by decide +kernel
theorem dX6_init_68 : decode cX6_init 68 = .ok (.iconst 0, 1) := by decide +kernel
theorem dX6_init_69 : decode cX6_init 69 = .ok (.istore_n 1, 1) := by decide +kernel
theorem dX6_init_70 : decode cX6_init 70 = .ok (.iload_n 1, 1) := by decide +kernel
theorem dX6_init_71 : decode cX6_init 71 = .ok (.aload_n 0, 1) := by decide +kernel
theorem dX6_init_72 : decode cX6_init 72 = .ok (.getfield 48, 3) := by decide +kernel
theorem dX6_init_75 : decode cX6_init 75 = .ok (.arraylength, 1) := by decide +kernel
theorem dX6_init_76 : decode cX6_init 76 = .ok (.if_icmp .ge 22, 3) := by decide +kernel
theorem dX6_init_79 : decode cX6_init 79 = .ok (.aload_n 0, 1) := by decide +kernel
theorem dX6_init_80 : decode cX6_init 80 = .ok (.getfield 48, 3) := by decide +kernel
theorem dX6_init_83 : decode cX6_init 83 = .ok (.iload_n 1, 1) := by decide +kernel
theorem dX6_init_84 : decode cX6_init 84 = .ok (.new 46, 3) := by decide +kernel
theorem dX6_init_87 : decode cX6_init 87 = .ok (.dup, 1) := by decide +kernel
theorem dX6_init_88 : decode cX6_init 88 = .ok (.invokespecial 52, 3) := by decide +kernel
theorem dX6_init_91 : decode cX6_init 91 = .ok (.aastore, 1) := by decide +kernel
theorem dX6_init_92 : decode cX6_init 92 = .ok (.iinc 1 1, 3) := by decide +kernel
theorem dX6_init_95 : decode cX6_init 95 = .ok (.goto (-25), 3) := by decide +kernel
theorem dX6_init_98 : decode cX6_init 98 = .ok (.aload_n 0, 1) := by decide +kernel
theorem dX6_init_99 : decode cX6_init 99 = .ok (.bipush 20, 2) := by decide +kernel
theorem dX6_init_101 : decode cX6_init 101 = .ok (.putfield 53, 3) := by decide +kernel
theorem dX6_init_104 : decode cX6_init 104 = .ok (.return_, 1) := by decide +kernel
theorem dX6_type_0 : decode cX6_type 0 = .ok (.iload_n 1, 1) := by decide +kernel
theorem dX6_type_1 : decode cX6_type 1 = .ok (.invokestatic 57, 3) := by decide +kernel
theorem dX6_type_4 : decode cX6_type 4 = .ok (.ifCond .ne 6, 3) := by decide +kernel
theorem dX6_type_7 : decode cX6_type 7 = .ok (.bipush (-2), 2) := by decide +kernel
theorem dX6_type_9 : decode cX6_type 9 = .ok (.ireturn, 1) := by decide +kernel
theorem dX6_type_10 : decode cX6_type 10 = .ok (.aload_n 0, 1) := by decide +kernel
theorem dX6_type_11 : decode cX6_type 11 = .ok (.getfield 10, 3) := by decide +kernel
theorem dX6_type_14 : decode cX6_type 14 = .ok (.iload_n 1, 1) := by decide +kernel
theorem dX6_type_15 : decode cX6_type 15 = .ok (.invokevirtual 61, 3) := by decide +kernel
theorem dX6_type_18 : decode cX6_type 18 = .ok (.ifCond .ne 6, 3) := by decide +kernel
theorem dX6_type_21 : decode cX6_type 21 = .ok (.bipush (-4), 2) := by decide +kernel
theorem dX6_type_23 : decode cX6_type 23 = .ok (.ireturn, 1) := by decide +kernel
theorem dX6_type_24 : decode cX6_type 24 = .ok (.aload_n 0, 1) := by decide +kernel
theorem dX6_type_25 : decode cX6_type 25 = .ok (.invokevirtual 64, 3) := by decide +kernel
theorem dX6_type_28 : decode cX6_type 28 = .ok (.aload_n 0, 1) := by decide +kernel
theorem dX6_type_29 : decode cX6_type 29 = .ok (.invokevirtual 67, 3) := by decide +kernel
theorem dX6_type_32 : decode cX6_type 32 = .ok (.aload_n 0, 1) := by decide +kernel
theorem dX6_type_33 : decode cX6_type 33 = .ok (.getfield 10, 3) := by decide +kernel
theorem dX6_type_36 : decode cX6_type 36 = .ok (.getfield 70, 3) := by decide +kernel
theorem dX6_type_39 : decode cX6_type 39 = .ok (.ireturn, 1) := by decide +kernel
theorem dX6_wipe_0 : decode cX6_wipe 0 = .ok (.aload_n 0, 1) := by decide +kernel
theorem dX6_wipe_1 : decode cX6_wipe 1 = .ok (.getfield 10, 3) := by decide +kernel
theorem dX6_wipe_4 : decode cX6_wipe 4 = .ok (.getfield 70, 3) := by decide +kernel
theorem dX6_wipe_7 : decode cX6_wipe 7 = .ok (.istore_n 1, 1) := by decide +kernel
theorem dX6_wipe_8 : decode cX6_wipe 8 = .ok (.aload_n 0, 1) := by decide +kernel
theorem dX6_wipe_9 : decode cX6_wipe 9 = .ok (.getfield 10, 3) := by decide +kernel
theorem dX6_wipe_12 : decode cX6_wipe 12 = .ok (.iconst 0, 1) := by decide +kernel
theorem dX6_wipe_13 : decode cX6_wipe 13 = .ok (.putfield 70, 3) := by decide +kernel
theorem dX6_wipe_16 : decode cX6_wipe 16 = .ok (.aload_n 0, 1) := by decide +kernel
theorem dX6_wipe_17 : decode cX6_wipe 17 = .ok (.invokevirtual 64, 3) := by decide +kernel
theorem dX6_wipe_20 : decode cX6_wipe 20 = .ok (.aload_n 0, 1) := by decide +kernel
theorem dX6_wipe_21 : decode cX6_wipe 21 = .ok (.invokevirtual 67, 3) := by decide +kernel
theorem dX6_wipe_24 : decode cX6_wipe 24 = .ok (.iload_n 1, 1) := by decide +kernel
theorem dX6_wipe_25 : decode cX6_wipe 25 = .ok (.ireturn, 1) := by decide +kernel
theorem dX6_undo_0 : decode cX6_undo 0 = .ok (.aload_n 0, 1) := by decide +kernel
theorem dX6_undo_1 : decode cX6_undo 1 = .ok (.getfield 10, 3) := by decide +kernel
theorem dX6_undo_4 : decode cX6_undo 4 = .ok (.getfield 70, 3) := by decide +kernel
theorem dX6_undo_7 : decode cX6_undo 7 = .ok (.ifCond .ne 6, 3) := by decide +kernel
theorem dX6_undo_10 : decode cX6_undo 10 = .ok (.bipush (-3), 2) := by decide +kernel
theorem dX6_undo_12 : decode cX6_undo 12 = .ok (.ireturn, 1) := by decide +kernel
theorem dX6_undo_13 : decode cX6_undo 13 = .ok (.aload_n 0, 1) := by decide +kernel
theorem dX6_undo_14 : decode cX6_undo 14 = .ok (.getfield 10, 3) := by decide +kernel
theorem dX6_undo_17 : decode cX6_undo 17 = .ok (.dup, 1) := by decide +kernel
theorem dX6_undo_18 : decode cX6_undo 18 = .ok (.getfield 70, 3) := by decide +kernel
theorem dX6_undo_21 : decode cX6_undo 21 = .ok (.iconst 1, 1) := by decide +kernel
theorem dX6_undo_22 : decode cX6_undo 22 = .ok (.isub, 1) := by decide +kernel
theorem dX6_undo_23 : decode cX6_undo 23 = .ok (.putfield 70, 3) := by decide +kernel
theorem dX6_undo_26 : decode cX6_undo 26 = .ok (.aload_n 0, 1) := by decide +kernel
theorem dX6_undo_27 : decode cX6_undo 27 = .ok (.invokevirtual 64, 3) := by decide +kernel
theorem dX6_undo_30 : decode cX6_undo 30 = .ok (.aload_n 0, 1) := by decide +kernel
theorem dX6_undo_31 : decode cX6_undo 31 = .ok (.invokevirtual 67, 3) := by decide +kernel
theorem dX6_undo_34 : decode cX6_undo 34 = .ok (.aload_n 0, 1) := by decide +kernel
theorem dX6_undo_35 : decode cX6_undo 35 = .ok (.getfield 10, 3) := by decide +kernel
theorem dX6_undo_38 : decode cX6_undo 38 = .ok (.getfield 70, 3) := by decide +kernel
theorem dX6_undo_41 : decode cX6_undo 41 = .ok (.ireturn, 1) := by decide +kernel
theorem dX6_fault_0 : decode cX6_fault 0 = .ok (.aload_n 0, 1) := by decide +kernel
theorem dX6_fault_1 : decode cX6_fault 1 = .ok (.getfield 10, 3) := by decide +kernel
theorem dX6_fault_4 : decode cX6_fault 4 = .ok (.getfield 73, 3) := by decide +kernel
theorem dX6_fault_7 : decode cX6_fault 7 = .ok (.ireturn, 1) := by decide +kernel
theorem dX6_width_0 : decode cX6_width 0 = .ok (.iload_n 1, 1) := by decide +kernel
theorem dX6_width_1 : decode cX6_width 1 = .ok (.iconst 1, 1) := by decide +kernel
theorem dX6_width_2 : decode cX6_width 2 = .ok (.if_icmp .lt 9, 3) := by decide +kernel
theorem dX6_width_5 : decode cX6_width 5 = .ok (.iload_n 1, 1) := by decide +kernel
theorem dX6_width_6 : decode cX6_width 6 = .ok (.bipush 99, 2) := by decide +kernel
theorem dX6_width_8 : decode cX6_width 8 = .ok (.if_icmp .le 6, 3) := by decide +kernel
theorem dX6_width_11 : decode cX6_width 11 = .ok (.bipush (-2), 2) := by decide +kernel
theorem dX6_width_13 : decode cX6_width 13 = .ok (.ireturn, 1) := by decide +kernel
theorem dX6_width_14 : decode cX6_width 14 = .ok (.aload_n 0, 1) := by decide +kernel
theorem dX6_width_15 : decode cX6_width 15 = .ok (.getfield 53, 3) := by decide +kernel
theorem dX6_width_18 : decode cX6_width 18 = .ok (.istore_n 2, 1) := by decide +kernel
theorem dX6_width_19 : decode cX6_width 19 = .ok (.aload_n 0, 1) := by decide +kernel
theorem dX6_width_20 : decode cX6_width 20 = .ok (.iload_n 1, 1) := by decide +kernel
theorem dX6_width_21 : decode cX6_width 21 = .ok (.putfield 53, 3) := by decide +kernel
theorem dX6_width_24 : decode cX6_width 24 = .ok (.aload_n 0, 1) := by decide +kernel
theorem dX6_width_25 : decode cX6_width 25 = .ok (.invokevirtual 67, 3) := by decide +kernel
theorem dX6_width_28 : decode cX6_width 28 = .ok (.iload_n 2, 1) := by decide +kernel
theorem dX6_width_29 : decode cX6_width 29 = .ok (.ireturn, 1) := by decide +kernel
theorem dX6_read_0 : decode cX6_read 0 = .ok (.aload_n 0, 1) := by decide +kernel
theorem dX6_read_1 : decode cX6_read 1 = .ok (.iload_n 1, 1) := by decide +kernel
theorem dX6_read_2 : decode cX6_read 2 = .ok (.invokevirtual 76, 3) := by decide +kernel
theorem dX6_read_5 : decode cX6_read 5 = .ok (.astore_n 2, 1) := by decide +kernel
theorem dX6_read_6 : decode cX6_read 6 = .ok (.aload_n 2, 1) := by decide +kernel
theorem dX6_read_7 : decode cX6_read 7 = .ok (.ifnonnull 6, 3) := by decide +kernel
theorem dX6_read_10 : decode cX6_read 10 = .ok (.bipush (-2), 2) := by decide +kernel
theorem dX6_read_12 : decode cX6_read 12 = .ok (.ireturn, 1) := by decide +kernel
theorem dX6_read_13 : decode cX6_read 13 = .ok (.aload_n 2, 1) := by decide +kernel
theorem dX6_read_14 : decode cX6_read 14 = .ok (.invokevirtual 80, 3) := by decide +kernel
theorem dX6_read_17 : decode cX6_read 17 = .ok (.ifCond .eq 9, 3) := by decide +kernel
theorem dX6_read_20 : decode cX6_read 20 = .ok (.aload_n 0, 1) := by decide +kernel
theorem dX6_read_21 : decode cX6_read 21 = .ok (.iconst 1, 1) := by decide +kernel
theorem dX6_read_22 : decode cX6_read 22 = .ok (.invokevirtual 84, 3) := by decide +kernel
theorem dX6_read_25 : decode cX6_read 25 = .ok (.ireturn, 1) := by decide +kernel
theorem dX6_read_26 : decode cX6_read 26 = .ok (.iconst 0, 1) := by decide +kernel
theorem dX6_read_27 : decode cX6_read 27 = .ok (.istore_n 3, 1) := by decide +kernel
theorem dX6_read_28 : decode cX6_read 28 = .ok (.iload_n 3, 1) := by decide +kernel
theorem dX6_read_29 : decode cX6_read 29 = .ok (.aload_n 2, 1) := by decide +kernel
theorem dX6_read_30 : decode cX6_read 30 = .ok (.getfield 88, 3) := by decide +kernel
theorem dX6_read_33 : decode cX6_read 33 = .ok (.if_icmp .ge 35, 3) := by decide +kernel
theorem dX6_read_36 : decode cX6_read 36 = .ok (.aload_n 2, 1) := by decide +kernel
theorem dX6_read_37 : decode cX6_read 37 = .ok (.iload_n 3, 1) := by decide +kernel
theorem dX6_read_38 : decode cX6_read 38 = .ok (.invokevirtual 91, 3) := by decide +kernel
theorem dX6_read_41 : decode cX6_read 41 = .ok (.invokestatic 57, 3) := by decide +kernel
theorem dX6_read_44 : decode cX6_read 44 = .ok (.ifCond .eq 24, 3) := by decide +kernel
theorem dX6_read_47 : decode cX6_read 47 = .ok (.aload_n 0, 1) := by decide +kernel
theorem dX6_read_48 : decode cX6_read 48 = .ok (.getfield 10, 3) := by decide +kernel
theorem dX6_read_51 : decode cX6_read 51 = .ok (.aload_n 2, 1) := by decide +kernel
theorem dX6_read_52 : decode cX6_read 52 = .ok (.iload_n 3, 1) := by decide +kernel
theorem dX6_read_53 : decode cX6_read 53 = .ok (.invokevirtual 91, 3) := by decide +kernel
theorem dX6_read_56 : decode cX6_read 56 = .ok (.invokevirtual 61, 3) := by decide +kernel
theorem dX6_read_59 : decode cX6_read 59 = .ok (.ifCond .eq 9, 3) := by decide +kernel
theorem dX6_read_62 : decode cX6_read 62 = .ok (.iinc 3 1, 3) := by decide +kernel
theorem dX6_read_65 : decode cX6_read 65 = .ok (.goto (-37), 3) := by decide +kernel
theorem dX6_read_68 : decode cX6_read 68 = .ok (.aload_n 0, 1) := by decide +kernel
theorem dX6_read_69 : decode cX6_read 69 = .ok (.invokevirtual 64, 3) := by decide +kernel
theorem dX6_read_72 : decode cX6_read 72 = .ok (.aload_n 0, 1) := by decide +kernel
theorem dX6_read_73 : decode cX6_read 73 = .ok (.invokevirtual 67, 3) := by decide +kernel
theorem dX6_read_76 : decode cX6_read 76 = .ok (.iload_n 3, 1) := by decide +kernel
theorem dX6_read_77 : decode cX6_read 77 = .ok (.ireturn, 1) := by decide +kernel
theorem dX6_part_0 : decode cX6_part 0 = .ok (.aload_n 0, 1) := by decide +kernel
theorem dX6_part_1 : decode cX6_part 1 = .ok (.getfield 10, 3) := by decide +kernel
theorem dX6_part_4 : decode cX6_part 4 = .ok (.iload_n 1, 1) := by decide +kernel
theorem dX6_part_5 : decode cX6_part 5 = .ok (.invokevirtual 94, 3) := by decide +kernel
theorem dX6_part_8 : decode cX6_part 8 = .ok (.ifCond .eq 12, 3) := by decide +kernel
theorem dX6_part_11 : decode cX6_part 11 = .ok (.iload_n 2, 1) := by decide +kernel
theorem dX6_part_12 : decode cX6_part 12 = .ok (.ifCond .lt 8, 3) := by decide +kernel
theorem dX6_part_15 : decode cX6_part 15 = .ok (.iload_n 2, 1) := by decide +kernel
theorem dX6_part_16 : decode cX6_part 16 = .ok (.iconst 3, 1) := by decide +kernel
theorem dX6_part_17 : decode cX6_part 17 = .ok (.if_icmp .le 6, 3) := by decide +kernel
theorem dX6_part_20 : decode cX6_part 20 = .ok (.bipush (-2), 2) := by decide +kernel
theorem dX6_part_22 : decode cX6_part 22 = .ok (.ireturn, 1) := by decide +kernel
theorem dX6_part_23 : decode cX6_part 23 = .ok (.iload_n 2, 1) := by decide +kernel
theorem dX6_part_24 : decode cX6_part 24 = .ok (.tableswitch 57 0 2 #[28, 38, 48], 28) := by decide +kernel
theorem dX6_part_52 : decode cX6_part 52 = .ok (.aload_n 0, 1) := by decide +kernel
theorem dX6_part_53 : decode cX6_part 53 = .ok (.getfield 10, 3) := by decide +kernel
theorem dX6_part_56 : decode cX6_part 56 = .ok (.getfield 97, 3) := by decide +kernel
theorem dX6_part_59 : decode cX6_part 59 = .ok (.iload_n 1, 1) := by decide +kernel
theorem dX6_part_60 : decode cX6_part 60 = .ok (.iaload, 1) := by decide +kernel
theorem dX6_part_61 : decode cX6_part 61 = .ok (.ireturn, 1) := by decide +kernel
theorem dX6_part_62 : decode cX6_part 62 = .ok (.aload_n 0, 1) := by decide +kernel
theorem dX6_part_63 : decode cX6_part 63 = .ok (.getfield 10, 3) := by decide +kernel
theorem dX6_part_66 : decode cX6_part 66 = .ok (.getfield 101, 3) := by decide +kernel
theorem dX6_part_69 : decode cX6_part 69 = .ok (.iload_n 1, 1) := by decide +kernel
theorem dX6_part_70 : decode cX6_part 70 = .ok (.iaload, 1) := by decide +kernel
theorem dX6_part_71 : decode cX6_part 71 = .ok (.ireturn, 1) := by decide +kernel
theorem dX6_part_72 : decode cX6_part 72 = .ok (.aload_n 0, 1) := by decide +kernel
theorem dX6_part_73 : decode cX6_part 73 = .ok (.getfield 19, 3) := by decide +kernel
theorem dX6_part_76 : decode cX6_part 76 = .ok (.iload_n 1, 1) := by decide +kernel
theorem dX6_part_77 : decode cX6_part 77 = .ok (.invokevirtual 103, 3) := by decide +kernel
theorem dX6_part_80 : decode cX6_part 80 = .ok (.ireturn, 1) := by decide +kernel
theorem dX6_part_81 : decode cX6_part 81 = .ok (.aload_n 0, 1) := by decide +kernel
theorem dX6_part_82 : decode cX6_part 82 = .ok (.getfield 10, 3) := by decide +kernel
theorem dX6_part_85 : decode cX6_part 85 = .ok (.getfield 106, 3) := by decide +kernel
theorem dX6_part_88 : decode cX6_part 88 = .ok (.iload_n 1, 1) := by decide +kernel
theorem dX6_part_89 : decode cX6_part 89 = .ok (.iaload, 1) := by decide +kernel
theorem dX6_part_90 : decode cX6_part 90 = .ok (.ireturn, 1) := by decide +kernel
theorem dX6_frontier_0 : decode cX6_frontier 0 = .ok (.aload_n 0, 1) := by decide +kernel
theorem dX6_frontier_1 : decode cX6_frontier 1 = .ok (.getfield 10, 3) := by decide +kernel
theorem dX6_frontier_4 : decode cX6_frontier 4 = .ok (.iload_n 1, 1) := by decide +kernel
theorem dX6_frontier_5 : decode cX6_frontier 5 = .ok (.invokevirtual 94, 3) := by decide +kernel
theorem dX6_frontier_8 : decode cX6_frontier 8 = .ok (.ifCond .eq 22, 3) := by decide +kernel
theorem dX6_frontier_11 : decode cX6_frontier 11 = .ok (.iload_n 2, 1) := by decide +kernel
theorem dX6_frontier_12 : decode cX6_frontier 12 = .ok (.ifCond .lt 18, 3) := by decide +kernel
theorem dX6_frontier_15 : decode cX6_frontier 15 = .ok (.iload_n 2, 1) := by decide +kernel
theorem dX6_frontier_16 : decode cX6_frontier 16 = .ok (.bipush 64, 2) := by decide +kernel
theorem dX6_frontier_18 : decode cX6_frontier 18 = .ok (.if_icmp .ge 12, 3) := by decide +kernel
theorem dX6_frontier_21 : decode cX6_frontier 21 = .ok (.iload_n 3, 1) := by decide +kernel
theorem dX6_frontier_22 : decode cX6_frontier 22 = .ok (.ifCond .lt 8, 3) := by decide +kernel
theorem dX6_frontier_25 : decode cX6_frontier 25 = .ok (.iload_n 3, 1) := by decide +kernel
theorem dX6_frontier_26 : decode cX6_frontier 26 = .ok (.iconst 3, 1) := by decide +kernel
theorem dX6_frontier_27 : decode cX6_frontier 27 = .ok (.if_icmp .le 6, 3) := by decide +kernel
theorem dX6_frontier_30 : decode cX6_frontier 30 = .ok (.bipush (-2), 2) := by decide +kernel
theorem dX6_frontier_32 : decode cX6_frontier 32 = .ok (.ireturn, 1) := by decide +kernel
theorem dX6_frontier_33 : decode cX6_frontier 33 = .ok (.iload_n 2, 1) := by decide +kernel
theorem dX6_frontier_34 : decode cX6_frontier 34 = .ok (.aload_n 0, 1) := by decide +kernel
theorem dX6_frontier_35 : decode cX6_frontier 35 = .ok (.getfield 19, 3) := by decide +kernel
theorem dX6_frontier_38 : decode cX6_frontier 38 = .ok (.iload_n 1, 1) := by decide +kernel
theorem dX6_frontier_39 : decode cX6_frontier 39 = .ok (.invokevirtual 103, 3) := by decide +kernel
theorem dX6_frontier_42 : decode cX6_frontier 42 = .ok (.if_icmp .lt 5, 3) := by decide +kernel
theorem dX6_frontier_45 : decode cX6_frontier 45 = .ok (.iconst (-1), 1) := by decide +kernel
theorem dX6_frontier_46 : decode cX6_frontier 46 = .ok (.ireturn, 1) := by decide +kernel
theorem dX6_frontier_47 : decode cX6_frontier 47 = .ok (.aload_n 0, 1) := by decide +kernel
theorem dX6_frontier_48 : decode cX6_frontier 48 = .ok (.getfield 19, 3) := by decide +kernel
theorem dX6_frontier_51 : decode cX6_frontier 51 = .ok (.getfield 109, 3) := by decide +kernel
theorem dX6_frontier_54 : decode cX6_frontier 54 = .ok (.iload_n 1, 1) := by decide +kernel
theorem dX6_frontier_55 : decode cX6_frontier 55 = .ok (.bipush 64, 2) := by decide +kernel
theorem dX6_frontier_57 : decode cX6_frontier 57 = .ok (.imul, 1) := by decide +kernel
theorem dX6_frontier_58 : decode cX6_frontier 58 = .ok (.iload_n 2, 1) := by decide +kernel
theorem dX6_frontier_59 : decode cX6_frontier 59 = .ok (.iadd, 1) := by decide +kernel
theorem dX6_frontier_60 : decode cX6_frontier 60 = .ok (.iload_n 3, 1) := by decide +kernel
theorem dX6_frontier_61 : decode cX6_frontier 61 = .ok (.invokevirtual 112, 3) := by decide +kernel
theorem dX6_frontier_64 : decode cX6_frontier 64 = .ok (.ireturn, 1) := by decide +kernel
theorem dX6_tried_0 : decode cX6_tried 0 = .ok (.iload_n 1, 1) := by decide +kernel
theorem dX6_tried_1 : decode cX6_tried 1 = .ok (.ifCond .lt 8, 3) := by decide +kernel
theorem dX6_tried_4 : decode cX6_tried 4 = .ok (.iload_n 1, 1) := by decide +kernel
theorem dX6_tried_5 : decode cX6_tried 5 = .ok (.iconst 1, 1) := by decide +kernel
theorem dX6_tried_6 : decode cX6_tried 6 = .ok (.if_icmp .le 6, 3) := by decide +kernel
theorem dX6_tried_9 : decode cX6_tried 9 = .ok (.bipush (-2), 2) := by decide +kernel
theorem dX6_tried_11 : decode cX6_tried 11 = .ok (.ireturn, 1) := by decide +kernel
theorem dX6_tried_12 : decode cX6_tried 12 = .ok (.iload_n 1, 1) := by decide +kernel
theorem dX6_tried_13 : decode cX6_tried 13 = .ok (.ifCond .ne 13, 3) := by decide +kernel
theorem dX6_tried_16 : decode cX6_tried 16 = .ok (.aload_n 0, 1) := by decide +kernel
theorem dX6_tried_17 : decode cX6_tried 17 = .ok (.getfield 19, 3) := by decide +kernel
theorem dX6_tried_20 : decode cX6_tried 20 = .ok (.getfield 116, 3) := by decide +kernel
theorem dX6_tried_23 : decode cX6_tried 23 = .ok (.goto 10, 3) := by decide +kernel
theorem dX6_tried_26 : decode cX6_tried 26 = .ok (.aload_n 0, 1) := by decide +kernel
theorem dX6_tried_27 : decode cX6_tried 27 = .ok (.getfield 19, 3) := by decide +kernel
theorem dX6_tried_30 : decode cX6_tried 30 = .ok (.getfield 119, 3) := by decide +kernel
theorem dX6_tried_33 : decode cX6_tried 33 = .ok (.ireturn, 1) := by decide +kernel
theorem dX6_best_0 : decode cX6_best 0 = .ok (.iload_n 1, 1) := by decide +kernel
theorem dX6_best_1 : decode cX6_best 1 = .ok (.ifCond .lt 8, 3) := by decide +kernel
theorem dX6_best_4 : decode cX6_best 4 = .ok (.iload_n 1, 1) := by decide +kernel
theorem dX6_best_5 : decode cX6_best 5 = .ok (.iconst 4, 1) := by decide +kernel
theorem dX6_best_6 : decode cX6_best 6 = .ok (.if_icmp .le 6, 3) := by decide +kernel
theorem dX6_best_9 : decode cX6_best 9 = .ok (.bipush (-2), 2) := by decide +kernel
theorem dX6_best_11 : decode cX6_best 11 = .ok (.ireturn, 1) := by decide +kernel
theorem dX6_best_12 : decode cX6_best 12 = .ok (.aload_n 0, 1) := by decide +kernel
theorem dX6_best_13 : decode cX6_best 13 = .ok (.getfield 122, 3) := by decide +kernel
theorem dX6_best_16 : decode cX6_best 16 = .ok (.ifCond .ne 5, 3) := by decide +kernel
theorem dX6_best_19 : decode cX6_best 19 = .ok (.iconst (-1), 1) := by decide +kernel
theorem dX6_best_20 : decode cX6_best 20 = .ok (.ireturn, 1) := by decide +kernel
theorem dX6_best_21 : decode cX6_best 21 = .ok (.iload_n 1, 1) := by decide +kernel
theorem dX6_best_22 : decode cX6_best 22 = .ok (.iconst 4, 1) := by decide +kernel
theorem dX6_best_23 : decode cX6_best 23 = .ok (.if_icmp .ne 16, 3) := by decide +kernel
theorem dX6_best_26 : decode cX6_best 26 = .ok (.aload_n 0, 1) := by decide +kernel
theorem dX6_best_27 : decode cX6_best 27 = .ok (.getfield 126, 3) := by decide +kernel
theorem dX6_best_30 : decode cX6_best 30 = .ok (.ifCond .eq 7, 3) := by decide +kernel
theorem dX6_best_33 : decode cX6_best 33 = .ok (.iconst 1, 1) := by decide +kernel
theorem dX6_best_34 : decode cX6_best 34 = .ok (.goto 4, 3) := by decide +kernel
theorem dX6_best_37 : decode cX6_best 37 = .ok (.iconst 0, 1) := by decide +kernel
theorem dX6_best_38 : decode cX6_best 38 = .ok (.ireturn, 1) := by decide +kernel
theorem dX6_best_39 : decode cX6_best 39 = .ok (.aload_n 0, 1) := by decide +kernel
theorem dX6_best_40 : decode cX6_best 40 = .ok (.getfield 28, 3) := by decide +kernel
theorem dX6_best_43 : decode cX6_best 43 = .ok (.iconst 0, 1) := by decide +kernel
theorem dX6_best_44 : decode cX6_best 44 = .ok (.iload_n 1, 1) := by decide +kernel
theorem dX6_best_45 : decode cX6_best 45 = .ok (.invokevirtual 112, 3) := by decide +kernel
theorem dX6_best_48 : decode cX6_best 48 = .ok (.ireturn, 1) := by decide +kernel
theorem dX6_line_0 : decode cX6_line 0 = .ok (.iload_n 1, 1) := by decide +kernel
theorem dX6_line_1 : decode cX6_line 1 = .ok (.ifCond .lt 21, 3) := by decide +kernel
theorem dX6_line_4 : decode cX6_line 4 = .ok (.iload_n 1, 1) := by decide +kernel
theorem dX6_line_5 : decode cX6_line 5 = .ok (.bipush 99, 2) := by decide +kernel
theorem dX6_line_7 : decode cX6_line 7 = .ok (.if_icmp .gt 15, 3) := by decide +kernel
theorem dX6_line_10 : decode cX6_line 10 = .ok (.iload_n 2, 1) := by decide +kernel
theorem dX6_line_11 : decode cX6_line 11 = .ok (.iconst (-1), 1) := by decide +kernel
theorem dX6_line_12 : decode cX6_line 12 = .ok (.if_icmp .lt 10, 3) := by decide +kernel
theorem dX6_line_15 : decode cX6_line 15 = .ok (.iload_n 2, 1) := by decide +kernel
theorem dX6_line_16 : decode cX6_line 16 = .ok (.sipush 399, 3) := by decide +kernel
theorem dX6_line_19 : decode cX6_line 19 = .ok (.if_icmp .le 6, 3) := by decide +kernel
theorem dX6_line_22 : decode cX6_line 22 = .ok (.bipush (-2), 2) := by decide +kernel
theorem dX6_line_24 : decode cX6_line 24 = .ok (.ireturn, 1) := by decide +kernel
theorem dX6_line_25 : decode cX6_line 25 = .ok (.iload_n 2, 1) := by decide +kernel
theorem dX6_line_26 : decode cX6_line 26 = .ok (.iconst (-1), 1) := by decide +kernel
theorem dX6_line_27 : decode cX6_line 27 = .ok (.if_icmp .ne 14, 3) := by decide +kernel
theorem dX6_line_30 : decode cX6_line 30 = .ok (.aload_n 0, 1) := by decide +kernel
theorem dX6_line_31 : decode cX6_line 31 = .ok (.getfield 42, 3) := by decide +kernel
theorem dX6_line_34 : decode cX6_line 34 = .ok (.iload_n 1, 1) := by decide +kernel
theorem dX6_line_35 : decode cX6_line 35 = .ok (.invokevirtual 129, 3) := by decide +kernel
theorem dX6_line_38 : decode cX6_line 38 = .ok (.goto 12, 3) := by decide +kernel
theorem dX6_line_41 : decode cX6_line 41 = .ok (.aload_n 0, 1) := by decide +kernel
theorem dX6_line_42 : decode cX6_line 42 = .ok (.getfield 42, 3) := by decide +kernel
theorem dX6_line_45 : decode cX6_line 45 = .ok (.iload_n 1, 1) := by decide +kernel
theorem dX6_line_46 : decode cX6_line 46 = .ok (.iload_n 2, 1) := by decide +kernel
theorem dX6_line_47 : decode cX6_line 47 = .ok (.invokevirtual 132, 3) := by decide +kernel
theorem dX6_line_50 : decode cX6_line 50 = .ok (.ireturn, 1) := by decide +kernel
theorem dX6_way_0 : decode cX6_way 0 = .ok (.iload_n 1, 1) := by decide +kernel
theorem dX6_way_1 : decode cX6_way 1 = .ok (.ifCond .lt 18, 3) := by decide +kernel
theorem dX6_way_4 : decode cX6_way 4 = .ok (.iload_n 1, 1) := by decide +kernel
theorem dX6_way_5 : decode cX6_way 5 = .ok (.bipush 64, 2) := by decide +kernel
theorem dX6_way_7 : decode cX6_way 7 = .ok (.if_icmp .ge 12, 3) := by decide +kernel
theorem dX6_way_10 : decode cX6_way 10 = .ok (.iload_n 2, 1) := by decide +kernel
theorem dX6_way_11 : decode cX6_way 11 = .ok (.ifCond .lt 8, 3) := by decide +kernel
theorem dX6_way_14 : decode cX6_way 14 = .ok (.iload_n 2, 1) := by decide +kernel
theorem dX6_way_15 : decode cX6_way 15 = .ok (.iconst 2, 1) := by decide +kernel
theorem dX6_way_16 : decode cX6_way 16 = .ok (.if_icmp .le 6, 3) := by decide +kernel
theorem dX6_way_19 : decode cX6_way 19 = .ok (.bipush (-2), 2) := by decide +kernel
theorem dX6_way_21 : decode cX6_way 21 = .ok (.ireturn, 1) := by decide +kernel
theorem dX6_way_22 : decode cX6_way 22 = .ok (.aload_n 0, 1) := by decide +kernel
theorem dX6_way_23 : decode cX6_way 23 = .ok (.getfield 35, 3) := by decide +kernel
theorem dX6_way_26 : decode cX6_way 26 = .ok (.iload_n 1, 1) := by decide +kernel
theorem dX6_way_27 : decode cX6_way 27 = .ok (.iload_n 2, 1) := by decide +kernel
theorem dX6_way_28 : decode cX6_way 28 = .ok (.invokevirtual 135, 3) := by decide +kernel
theorem dX6_way_31 : decode cX6_way 31 = .ok (.ireturn, 1) := by decide +kernel
theorem dX6_haste_0 : decode cX6_haste 0 = .ok (.iload_n 1, 1) := by decide +kernel
theorem dX6_haste_1 : decode cX6_haste 1 = .ok (.ifCond .lt 8, 3) := by decide +kernel
theorem dX6_haste_4 : decode cX6_haste 4 = .ok (.iload_n 1, 1) := by decide +kernel
theorem dX6_haste_5 : decode cX6_haste 5 = .ok (.iconst 2, 1) := by decide +kernel
theorem dX6_haste_6 : decode cX6_haste 6 = .ok (.if_icmp .le 6, 3) := by decide +kernel
theorem dX6_haste_9 : decode cX6_haste 9 = .ok (.bipush (-2), 2) := by decide +kernel
theorem dX6_haste_11 : decode cX6_haste 11 = .ok (.ireturn, 1) := by decide +kernel
theorem dX6_haste_12 : decode cX6_haste 12 = .ok (.aload_n 0, 1) := by decide +kernel
theorem dX6_haste_13 : decode cX6_haste 13 = .ok (.getfield 35, 3) := by decide +kernel
theorem dX6_haste_16 : decode cX6_haste 16 = .ok (.aload_n 0, 1) := by decide +kernel
theorem dX6_haste_17 : decode cX6_haste 17 = .ok (.getfield 10, 3) := by decide +kernel
theorem dX6_haste_20 : decode cX6_haste 20 = .ok (.getfield 136, 3) := by decide +kernel
theorem dX6_haste_23 : decode cX6_haste 23 = .ok (.aload_n 0, 1) := by decide +kernel
theorem dX6_haste_24 : decode cX6_haste 24 = .ok (.getfield 53, 3) := by decide +kernel
theorem dX6_haste_27 : decode cX6_haste 27 = .ok (.invokevirtual 139, 3) := by decide +kernel
theorem dX6_haste_30 : decode cX6_haste 30 = .ok (.istore_n 2, 1) := by decide +kernel
theorem dX6_haste_31 : decode cX6_haste 31 = .ok (.iload_n 2, 1) := by decide +kernel
theorem dX6_haste_32 : decode cX6_haste 32 = .ok (.iconst (-1), 1) := by decide +kernel
theorem dX6_haste_33 : decode cX6_haste 33 = .ok (.if_icmp .eq 7, 3) := by decide +kernel
theorem dX6_haste_36 : decode cX6_haste 36 = .ok (.iload_n 1, 1) := by decide +kernel
theorem dX6_haste_37 : decode cX6_haste 37 = .ok (.ifCond .ne 5, 3) := by decide +kernel
theorem dX6_haste_40 : decode cX6_haste 40 = .ok (.iload_n 2, 1) := by decide +kernel
theorem dX6_haste_41 : decode cX6_haste 41 = .ok (.ireturn, 1) := by decide +kernel
theorem dX6_haste_42 : decode cX6_haste 42 = .ok (.aload_n 0, 1) := by decide +kernel
theorem dX6_haste_43 : decode cX6_haste 43 = .ok (.getfield 35, 3) := by decide +kernel
theorem dX6_haste_46 : decode cX6_haste 46 = .ok (.iload_n 2, 1) := by decide +kernel
theorem dX6_haste_47 : decode cX6_haste 47 = .ok (.iload_n 1, 1) := by decide +kernel
theorem dX6_haste_48 : decode cX6_haste 48 = .ok (.iconst 1, 1) := by decide +kernel
theorem dX6_haste_49 : decode cX6_haste 49 = .ok (.if_icmp .ne 7, 3) := by decide +kernel
theorem dX6_haste_52 : decode cX6_haste 52 = .ok (.iconst 0, 1) := by decide +kernel
theorem dX6_haste_53 : decode cX6_haste 53 = .ok (.goto 4, 3) := by decide +kernel
theorem dX6_haste_56 : decode cX6_haste 56 = .ok (.iconst 2, 1) := by decide +kernel
theorem dX6_haste_57 : decode cX6_haste 57 = .ok (.invokevirtual 135, 3) := by decide +kernel
theorem dX6_haste_60 : decode cX6_haste 60 = .ok (.ireturn, 1) := by decide +kernel
theorem dX6_enough_0 : decode cX6_enough 0 = .ok (.aload_n 0, 1) := by decide +kernel
theorem dX6_enough_1 : decode cX6_enough 1 = .ok (.getfield 35, 3) := by decide +kernel
theorem dX6_enough_4 : decode cX6_enough 4 = .ok (.getfield 142, 3) := by decide +kernel
theorem dX6_enough_7 : decode cX6_enough 7 = .ok (.ireturn, 1) := by decide +kernel
theorem dX6_shrinks_0 : decode cX6_shrinks 0 = .ok (.iload_n 1, 1) := by decide +kernel
theorem dX6_shrinks_1 : decode cX6_shrinks 1 = .ok (.iconst (-1), 1) := by decide +kernel
theorem dX6_shrinks_2 : decode cX6_shrinks 2 = .ok (.if_icmp .lt 9, 3) := by decide +kernel
theorem dX6_shrinks_5 : decode cX6_shrinks 5 = .ok (.iload_n 1, 1) := by decide +kernel
theorem dX6_shrinks_6 : decode cX6_shrinks 6 = .ok (.bipush 39, 2) := by decide +kernel
theorem dX6_shrinks_8 : decode cX6_shrinks 8 = .ok (.if_icmp .le 6, 3) := by decide +kernel
theorem dX6_shrinks_11 : decode cX6_shrinks 11 = .ok (.bipush (-2), 2) := by decide +kernel
theorem dX6_shrinks_13 : decode cX6_shrinks 13 = .ok (.ireturn, 1) := by decide +kernel
theorem dX6_shrinks_14 : decode cX6_shrinks 14 = .ok (.iload_n 1, 1) := by decide +kernel
theorem dX6_shrinks_15 : decode cX6_shrinks 15 = .ok (.iconst (-1), 1) := by decide +kernel
theorem dX6_shrinks_16 : decode cX6_shrinks 16 = .ok (.if_icmp .ne 13, 3) := by decide +kernel
theorem dX6_shrinks_19 : decode cX6_shrinks 19 = .ok (.aload_n 0, 1) := by decide +kernel
theorem dX6_shrinks_20 : decode cX6_shrinks 20 = .ok (.getfield 35, 3) := by decide +kernel
theorem dX6_shrinks_23 : decode cX6_shrinks 23 = .ok (.getfield 145, 3) := by decide +kernel
theorem dX6_shrinks_26 : decode cX6_shrinks 26 = .ok (.goto 11, 3) := by decide +kernel
theorem dX6_shrinks_29 : decode cX6_shrinks 29 = .ok (.aload_n 0, 1) := by decide +kernel
theorem dX6_shrinks_30 : decode cX6_shrinks 30 = .ok (.getfield 35, 3) := by decide +kernel
theorem dX6_shrinks_33 : decode cX6_shrinks 33 = .ok (.iload_n 1, 1) := by decide +kernel
theorem dX6_shrinks_34 : decode cX6_shrinks 34 = .ok (.invokevirtual 148, 3) := by decide +kernel
theorem dX6_shrinks_37 : decode cX6_shrinks 37 = .ok (.ireturn, 1) := by decide +kernel
theorem dX6_spare_0 : decode cX6_spare 0 = .ok (.aload_n 0, 1) := by decide +kernel
theorem dX6_spare_1 : decode cX6_spare 1 = .ok (.getfield 122, 3) := by decide +kernel
theorem dX6_spare_4 : decode cX6_spare 4 = .ok (.ifCond .ne 5, 3) := by decide +kernel
theorem dX6_spare_7 : decode cX6_spare 7 = .ok (.iconst 0, 1) := by decide +kernel
theorem dX6_spare_8 : decode cX6_spare 8 = .ok (.ireturn, 1) := by decide +kernel
theorem dX6_spare_9 : decode cX6_spare 9 = .ok (.aload_n 0, 1) := by decide +kernel
theorem dX6_spare_10 : decode cX6_spare 10 = .ok (.getfield 28, 3) := by decide +kernel
theorem dX6_spare_13 : decode cX6_spare 13 = .ok (.iconst 0, 1) := by decide +kernel
theorem dX6_spare_14 : decode cX6_spare 14 = .ok (.iconst 0, 1) := by decide +kernel
theorem dX6_spare_15 : decode cX6_spare 15 = .ok (.invokevirtual 112, 3) := by decide +kernel
theorem dX6_spare_18 : decode cX6_spare 18 = .ok (.istore_n 1, 1) := by decide +kernel
theorem dX6_spare_19 : decode cX6_spare 19 = .ok (.iconst 0, 1) := by decide +kernel
theorem dX6_spare_20 : decode cX6_spare 20 = .ok (.istore_n 2, 1) := by decide +kernel
theorem dX6_spare_21 : decode cX6_spare 21 = .ok (.iconst 0, 1) := by decide +kernel
theorem dX6_spare_22 : decode cX6_spare 22 = .ok (.istore_n 3, 1) := by decide +kernel
theorem dX6_spare_23 : decode cX6_spare 23 = .ok (.iload_n 3, 1) := by decide +kernel
theorem dX6_spare_24 : decode cX6_spare 24 = .ok (.aload_n 0, 1) := by decide +kernel
theorem dX6_spare_25 : decode cX6_spare 25 = .ok (.getfield 10, 3) := by decide +kernel
theorem dX6_spare_28 : decode cX6_spare 28 = .ok (.getfield 136, 3) := by decide +kernel
theorem dX6_spare_31 : decode cX6_spare 31 = .ok (.if_icmp .ge 59, 3) := by decide +kernel
theorem dX6_spare_34 : decode cX6_spare 34 = .ok (.iconst 1, 1) := by decide +kernel
theorem dX6_spare_35 : decode cX6_spare 35 = .ok (.iload_n 3, 1) := by decide +kernel
theorem dX6_spare_36 : decode cX6_spare 36 = .ok (.ishl, 1) := by decide +kernel
theorem dX6_spare_37 : decode cX6_spare 37 = .ok (.istore 4, 2) := by decide +kernel
theorem dX6_spare_39 : decode cX6_spare 39 = .ok (.aload_n 0, 1) := by decide +kernel
theorem dX6_spare_40 : decode cX6_spare 40 = .ok (.getfield 126, 3) := by decide +kernel
theorem dX6_spare_43 : decode cX6_spare 43 = .ok (.ifCond .eq 15, 3) := by decide +kernel
theorem dX6_spare_46 : decode cX6_spare 46 = .ok (.aload_n 0, 1) := by decide +kernel
theorem dX6_spare_47 : decode cX6_spare 47 = .ok (.getfield 35, 3) := by decide +kernel
theorem dX6_spare_50 : decode cX6_spare 50 = .ok (.iload 4, 2) := by decide +kernel
theorem dX6_spare_52 : decode cX6_spare 52 = .ok (.invokevirtual 151, 3) := by decide +kernel
theorem dX6_spare_55 : decode cX6_spare 55 = .ok (.goto 16, 3) := by decide +kernel
theorem dX6_spare_58 : decode cX6_spare 58 = .ok (.aload_n 0, 1) := by decide +kernel
theorem dX6_spare_59 : decode cX6_spare 59 = .ok (.getfield 35, 3) := by decide +kernel
theorem dX6_spare_62 : decode cX6_spare 62 = .ok (.iload 4, 2) := by decide +kernel
theorem dX6_spare_64 : decode cX6_spare 64 = .ok (.aload_n 0, 1) := by decide +kernel
theorem dX6_spare_65 : decode cX6_spare 65 = .ok (.getfield 53, 3) := by decide +kernel
theorem dX6_spare_68 : decode cX6_spare 68 = .ok (.invokevirtual 154, 3) := by decide +kernel
theorem dX6_spare_71 : decode cX6_spare 71 = .ok (.istore 5, 2) := by decide +kernel
theorem dX6_spare_73 : decode cX6_spare 73 = .ok (.iload 5, 2) := by decide +kernel
theorem dX6_spare_75 : decode cX6_spare 75 = .ok (.iload_n 1, 1) := by decide +kernel
theorem dX6_spare_76 : decode cX6_spare 76 = .ok (.if_icmp .ne 8, 3) := by decide +kernel
theorem dX6_spare_79 : decode cX6_spare 79 = .ok (.iload_n 2, 1) := by decide +kernel
theorem dX6_spare_80 : decode cX6_spare 80 = .ok (.iload 4, 2) := by decide +kernel
theorem dX6_spare_82 : decode cX6_spare 82 = .ok (.ior, 1) := by decide +kernel
theorem dX6_spare_83 : decode cX6_spare 83 = .ok (.istore_n 2, 1) := by decide +kernel
theorem dX6_spare_84 : decode cX6_spare 84 = .ok (.iinc 3 1, 3) := by decide +kernel
theorem dX6_spare_87 : decode cX6_spare 87 = .ok (.goto (-64), 3) := by decide +kernel
theorem dX6_spare_90 : decode cX6_spare 90 = .ok (.iload_n 2, 1) := by decide +kernel
theorem dX6_spare_91 : decode cX6_spare 91 = .ok (.ireturn, 1) := by decide +kernel
theorem dX6_sheet_0 : decode cX6_sheet 0 = .ok (.aload_n 0, 1) := by decide +kernel
theorem dX6_sheet_1 : decode cX6_sheet 1 = .ok (.iload_n 1, 1) := by decide +kernel
theorem dX6_sheet_2 : decode cX6_sheet 2 = .ok (.invokevirtual 76, 3) := by decide +kernel
theorem dX6_sheet_5 : decode cX6_sheet 5 = .ok (.astore 4, 2) := by decide +kernel
theorem dX6_sheet_7 : decode cX6_sheet 7 = .ok (.aload 4, 2) := by decide +kernel
theorem dX6_sheet_9 : decode cX6_sheet 9 = .ok (.ifnull 16, 3) := by decide +kernel
theorem dX6_sheet_12 : decode cX6_sheet 12 = .ok (.iload_n 2, 1) := by decide +kernel
theorem dX6_sheet_13 : decode cX6_sheet 13 = .ok (.invokestatic 157, 3) := by decide +kernel
theorem dX6_sheet_16 : decode cX6_sheet 16 = .ok (.ifCond .eq 9, 3) := by decide +kernel
theorem dX6_sheet_19 : decode cX6_sheet 19 = .ok (.iload_n 3, 1) := by decide +kernel
theorem dX6_sheet_20 : decode cX6_sheet 20 = .ok (.bipush 60, 2) := by decide +kernel
theorem dX6_sheet_22 : decode cX6_sheet 22 = .ok (.if_icmp .le 6, 3) := by decide +kernel
theorem dX6_sheet_25 : decode cX6_sheet 25 = .ok (.bipush (-2), 2) := by decide +kernel
theorem dX6_sheet_27 : decode cX6_sheet 27 = .ok (.ireturn, 1) := by decide +kernel
theorem dX6_sheet_28 : decode cX6_sheet 28 = .ok (.iload_n 3, 1) := by decide +kernel
theorem dX6_sheet_29 : decode cX6_sheet 29 = .ok (.ifCond .ge 9, 3) := by decide +kernel
theorem dX6_sheet_32 : decode cX6_sheet 32 = .ok (.aload_n 0, 1) := by decide +kernel
theorem dX6_sheet_33 : decode cX6_sheet 33 = .ok (.iconst 5, 1) := by decide +kernel
theorem dX6_sheet_34 : decode cX6_sheet 34 = .ok (.invokevirtual 84, 3) := by decide +kernel
theorem dX6_sheet_37 : decode cX6_sheet 37 = .ok (.ireturn, 1) := by decide +kernel
theorem dX6_sheet_38 : decode cX6_sheet 38 = .ok (.aload 4, 2) := by decide +kernel
theorem dX6_sheet_40 : decode cX6_sheet 40 = .ok (.iload_n 2, 1) := by decide +kernel
theorem dX6_sheet_41 : decode cX6_sheet 41 = .ok (.iload_n 3, 1) := by decide +kernel
theorem dX6_sheet_42 : decode cX6_sheet 42 = .ok (.invokevirtual 160, 3) := by decide +kernel
theorem dX6_sheet_45 : decode cX6_sheet 45 = .ok (.iload_n 3, 1) := by decide +kernel
theorem dX6_sheet_46 : decode cX6_sheet 46 = .ok (.ireturn, 1) := by decide +kernel
theorem dX6_lose_0 : decode cX6_lose 0 = .ok (.aload_n 0, 1) := by decide +kernel
theorem dX6_lose_1 : decode cX6_lose 1 = .ok (.iload_n 1, 1) := by decide +kernel
theorem dX6_lose_2 : decode cX6_lose 2 = .ok (.invokevirtual 76, 3) := by decide +kernel
theorem dX6_lose_5 : decode cX6_lose 5 = .ok (.astore_n 2, 1) := by decide +kernel
theorem dX6_lose_6 : decode cX6_lose 6 = .ok (.aload_n 2, 1) := by decide +kernel
theorem dX6_lose_7 : decode cX6_lose 7 = .ok (.ifnonnull 6, 3) := by decide +kernel
theorem dX6_lose_10 : decode cX6_lose 10 = .ok (.bipush (-2), 2) := by decide +kernel
theorem dX6_lose_12 : decode cX6_lose 12 = .ok (.ireturn, 1) := by decide +kernel
theorem dX6_lose_13 : decode cX6_lose 13 = .ok (.aload_n 2, 1) := by decide +kernel
theorem dX6_lose_14 : decode cX6_lose 14 = .ok (.invokevirtual 80, 3) := by decide +kernel
theorem dX6_lose_17 : decode cX6_lose 17 = .ok (.ifCond .eq 9, 3) := by decide +kernel
theorem dX6_lose_20 : decode cX6_lose 20 = .ok (.aload_n 0, 1) := by decide +kernel
theorem dX6_lose_21 : decode cX6_lose 21 = .ok (.iconst 1, 1) := by decide +kernel
theorem dX6_lose_22 : decode cX6_lose 22 = .ok (.invokevirtual 84, 3) := by decide +kernel
theorem dX6_lose_25 : decode cX6_lose 25 = .ok (.ireturn, 1) := by decide +kernel
theorem dX6_lose_26 : decode cX6_lose 26 = .ok (.aload_n 2, 1) := by decide +kernel
theorem dX6_lose_27 : decode cX6_lose 27 = .ok (.getfield 88, 3) := by decide +kernel
theorem dX6_lose_30 : decode cX6_lose 30 = .ok (.istore_n 3, 1) := by decide +kernel
theorem dX6_lose_31 : decode cX6_lose 31 = .ok (.aload_n 2, 1) := by decide +kernel
theorem dX6_lose_32 : decode cX6_lose 32 = .ok (.iconst (-1), 1) := by decide +kernel
theorem dX6_lose_33 : decode cX6_lose 33 = .ok (.iconst 0, 1) := by decide +kernel
theorem dX6_lose_34 : decode cX6_lose 34 = .ok (.invokevirtual 160, 3) := by decide +kernel
theorem dX6_lose_37 : decode cX6_lose 37 = .ok (.iload_n 3, 1) := by decide +kernel
theorem dX6_lose_38 : decode cX6_lose 38 = .ok (.ireturn, 1) := by decide +kernel
theorem dX6_put_0 : decode cX6_put 0 = .ok (.aload_n 0, 1) := by decide +kernel
theorem dX6_put_1 : decode cX6_put 1 = .ok (.iload_n 1, 1) := by decide +kernel
theorem dX6_put_2 : decode cX6_put 2 = .ok (.invokevirtual 76, 3) := by decide +kernel
theorem dX6_put_5 : decode cX6_put 5 = .ok (.astore 5, 2) := by decide +kernel
theorem dX6_put_7 : decode cX6_put 7 = .ok (.aload 5, 2) := by decide +kernel
theorem dX6_put_9 : decode cX6_put 9 = .ok (.ifnull 10, 3) := by decide +kernel
theorem dX6_put_12 : decode cX6_put 12 = .ok (.iload_n 2, 1) := by decide +kernel
theorem dX6_put_13 : decode cX6_put 13 = .ok (.invokestatic 157, 3) := by decide +kernel
theorem dX6_put_16 : decode cX6_put 16 = .ok (.ifCond .ne 6, 3) := by decide +kernel
theorem dX6_put_19 : decode cX6_put 19 = .ok (.bipush (-2), 2) := by decide +kernel
theorem dX6_put_21 : decode cX6_put 21 = .ok (.ireturn, 1) := by decide +kernel
theorem dX6_put_22 : decode cX6_put 22 = .ok (.aload 5, 2) := by decide +kernel
theorem dX6_put_24 : decode cX6_put 24 = .ok (.iload_n 2, 1) := by decide +kernel
theorem dX6_put_25 : decode cX6_put 25 = .ok (.iload_n 3, 1) := by decide +kernel
theorem dX6_put_26 : decode cX6_put 26 = .ok (.invokestatic 164, 3) := by decide +kernel
theorem dX6_put_29 : decode cX6_put 29 = .ok (.istore 6, 2) := by decide +kernel
theorem dX6_put_31 : decode cX6_put 31 = .ok (.iload 6, 2) := by decide +kernel
theorem dX6_put_33 : decode cX6_put 33 = .ok (.ifCond .eq 10, 3) := by decide +kernel
theorem dX6_put_36 : decode cX6_put 36 = .ok (.aload_n 0, 1) := by decide +kernel
theorem dX6_put_37 : decode cX6_put 37 = .ok (.iload 6, 2) := by decide +kernel
theorem dX6_put_39 : decode cX6_put 39 = .ok (.invokevirtual 84, 3) := by decide +kernel
theorem dX6_put_42 : decode cX6_put 42 = .ok (.ireturn, 1) := by decide +kernel
theorem dX6_put_43 : decode cX6_put 43 = .ok (.aload 5, 2) := by decide +kernel
theorem dX6_put_45 : decode cX6_put 45 = .ok (.iload_n 3, 1) := by decide +kernel
theorem dX6_put_46 : decode cX6_put 46 = .ok (.iload 4, 2) := by decide +kernel
theorem dX6_put_48 : decode cX6_put 48 = .ok (.invokevirtual 168, 3) := by decide +kernel
theorem dX6_put_51 : decode cX6_put 51 = .ok (.iconst 1, 1) := by decide +kernel
theorem dX6_put_52 : decode cX6_put 52 = .ok (.ireturn, 1) := by decide +kernel
theorem dX6_get_0 : decode cX6_get 0 = .ok (.aload_n 0, 1) := by decide +kernel
theorem dX6_get_1 : decode cX6_get 1 = .ok (.iload_n 1, 1) := by decide +kernel
theorem dX6_get_2 : decode cX6_get 2 = .ok (.invokevirtual 76, 3) := by decide +kernel
theorem dX6_get_5 : decode cX6_get 5 = .ok (.astore 4, 2) := by decide +kernel
theorem dX6_get_7 : decode cX6_get 7 = .ok (.aload 4, 2) := by decide +kernel
theorem dX6_get_9 : decode cX6_get 9 = .ok (.ifnull 10, 3) := by decide +kernel
theorem dX6_get_12 : decode cX6_get 12 = .ok (.iload_n 2, 1) := by decide +kernel
theorem dX6_get_13 : decode cX6_get 13 = .ok (.invokestatic 157, 3) := by decide +kernel
theorem dX6_get_16 : decode cX6_get 16 = .ok (.ifCond .ne 6, 3) := by decide +kernel
theorem dX6_get_19 : decode cX6_get 19 = .ok (.ldc 171, 2) := by decide +kernel
theorem dX6_get_21 : decode cX6_get 21 = .ok (.ireturn, 1) := by decide +kernel
theorem dX6_get_22 : decode cX6_get 22 = .ok (.aload 4, 2) := by decide +kernel
theorem dX6_get_24 : decode cX6_get 24 = .ok (.iload_n 2, 1) := by decide +kernel
theorem dX6_get_25 : decode cX6_get 25 = .ok (.iload_n 3, 1) := by decide +kernel
theorem dX6_get_26 : decode cX6_get 26 = .ok (.invokestatic 164, 3) := by decide +kernel
theorem dX6_get_29 : decode cX6_get 29 = .ok (.istore 5, 2) := by decide +kernel
theorem dX6_get_31 : decode cX6_get 31 = .ok (.iload 5, 2) := by decide +kernel
theorem dX6_get_33 : decode cX6_get 33 = .ok (.ifCond .eq 13, 3) := by decide +kernel
theorem dX6_get_36 : decode cX6_get 36 = .ok (.aload_n 0, 1) := by decide +kernel
theorem dX6_get_37 : decode cX6_get 37 = .ok (.iload 5, 2) := by decide +kernel
theorem dX6_get_39 : decode cX6_get 39 = .ok (.invokevirtual 84, 3) := by decide +kernel
theorem dX6_get_42 : decode cX6_get 42 = .ok (.pop, 1) := by decide +kernel
theorem dX6_get_43 : decode cX6_get 43 = .ok (.ldc 171, 2) := by decide +kernel
theorem dX6_get_45 : decode cX6_get 45 = .ok (.ireturn, 1) := by decide +kernel
theorem dX6_get_46 : decode cX6_get 46 = .ok (.aload 4, 2) := by decide +kernel
theorem dX6_get_48 : decode cX6_get 48 = .ok (.iload_n 3, 1) := by decide +kernel
theorem dX6_get_49 : decode cX6_get 49 = .ok (.invokevirtual 91, 3) := by decide +kernel
theorem dX6_get_52 : decode cX6_get 52 = .ok (.ireturn, 1) := by decide +kernel
theorem dX6_copy_0 : decode cX6_copy 0 = .ok (.aload_n 0, 1) := by decide +kernel
theorem dX6_copy_1 : decode cX6_copy 1 = .ok (.iload_n 1, 1) := by decide +kernel
theorem dX6_copy_2 : decode cX6_copy 2 = .ok (.invokevirtual 76, 3) := by decide +kernel
theorem dX6_copy_5 : decode cX6_copy 5 = .ok (.astore 6, 2) := by decide +kernel
theorem dX6_copy_7 : decode cX6_copy 7 = .ok (.aload_n 0, 1) := by decide +kernel
theorem dX6_copy_8 : decode cX6_copy 8 = .ok (.iload_n 3, 1) := by decide +kernel
theorem dX6_copy_9 : decode cX6_copy 9 = .ok (.invokevirtual 76, 3) := by decide +kernel
theorem dX6_copy_12 : decode cX6_copy 12 = .ok (.astore 7, 2) := by decide +kernel
theorem dX6_copy_14 : decode cX6_copy 14 = .ok (.aload 6, 2) := by decide +kernel
theorem dX6_copy_16 : decode cX6_copy 16 = .ok (.ifnull 8, 3) := by decide +kernel
theorem dX6_copy_19 : decode cX6_copy 19 = .ok (.aload 7, 2) := by decide +kernel
theorem dX6_copy_21 : decode cX6_copy 21 = .ok (.ifnonnull 6, 3) := by decide +kernel
theorem dX6_copy_24 : decode cX6_copy 24 = .ok (.bipush (-2), 2) := by decide +kernel
theorem dX6_copy_26 : decode cX6_copy 26 = .ok (.ireturn, 1) := by decide +kernel
theorem dX6_copy_27 : decode cX6_copy 27 = .ok (.aload 6, 2) := by decide +kernel
theorem dX6_copy_29 : decode cX6_copy 29 = .ok (.invokevirtual 80, 3) := by decide +kernel
theorem dX6_copy_32 : decode cX6_copy 32 = .ok (.ifCond .ne 11, 3) := by decide +kernel
theorem dX6_copy_35 : decode cX6_copy 35 = .ok (.aload 7, 2) := by decide +kernel
theorem dX6_copy_37 : decode cX6_copy 37 = .ok (.invokevirtual 80, 3) := by decide +kernel
theorem dX6_copy_40 : decode cX6_copy 40 = .ok (.ifCond .eq 9, 3) := by decide +kernel
theorem dX6_copy_43 : decode cX6_copy 43 = .ok (.aload_n 0, 1) := by decide +kernel
theorem dX6_copy_44 : decode cX6_copy 44 = .ok (.iconst 1, 1) := by decide +kernel
theorem dX6_copy_45 : decode cX6_copy 45 = .ok (.invokevirtual 84, 3) := by decide +kernel
theorem dX6_copy_48 : decode cX6_copy 48 = .ok (.ireturn, 1) := by decide +kernel
theorem dX6_copy_49 : decode cX6_copy 49 = .ok (.aload 6, 2) := by decide +kernel
theorem dX6_copy_51 : decode cX6_copy 51 = .ok (.getfield 172, 3) := by decide +kernel
theorem dX6_copy_54 : decode cX6_copy 54 = .ok (.aload 7, 2) := by decide +kernel
theorem dX6_copy_56 : decode cX6_copy 56 = .ok (.getfield 172, 3) := by decide +kernel
theorem dX6_copy_59 : decode cX6_copy 59 = .ok (.if_icmp .eq 9, 3) := by decide +kernel
theorem dX6_copy_62 : decode cX6_copy 62 = .ok (.aload_n 0, 1) := by decide +kernel
theorem dX6_copy_63 : decode cX6_copy 63 = .ok (.iconst 4, 1) := by decide +kernel
theorem dX6_copy_64 : decode cX6_copy 64 = .ok (.invokevirtual 84, 3) := by decide +kernel
theorem dX6_copy_67 : decode cX6_copy 67 = .ok (.ireturn, 1) := by decide +kernel
theorem dX6_copy_68 : decode cX6_copy 68 = .ok (.aload 6, 2) := by decide +kernel
theorem dX6_copy_70 : decode cX6_copy 70 = .ok (.iload_n 2, 1) := by decide +kernel
theorem dX6_copy_71 : decode cX6_copy 71 = .ok (.iload 5, 2) := by decide +kernel
theorem dX6_copy_73 : decode cX6_copy 73 = .ok (.invokevirtual 175, 3) := by decide +kernel
theorem dX6_copy_76 : decode cX6_copy 76 = .ok (.ifCond .eq 15, 3) := by decide +kernel
theorem dX6_copy_79 : decode cX6_copy 79 = .ok (.aload 7, 2) := by decide +kernel
theorem dX6_copy_81 : decode cX6_copy 81 = .ok (.iload 4, 2) := by decide +kernel
theorem dX6_copy_83 : decode cX6_copy 83 = .ok (.iload 5, 2) := by decide +kernel
theorem dX6_copy_85 : decode cX6_copy 85 = .ok (.invokevirtual 175, 3) := by decide +kernel
theorem dX6_copy_88 : decode cX6_copy 88 = .ok (.ifCond .ne 9, 3) := by decide +kernel
theorem dX6_copy_91 : decode cX6_copy 91 = .ok (.aload_n 0, 1) := by decide +kernel
theorem dX6_copy_92 : decode cX6_copy 92 = .ok (.iconst 2, 1) := by decide +kernel
theorem dX6_copy_93 : decode cX6_copy 93 = .ok (.invokevirtual 84, 3) := by decide +kernel
theorem dX6_copy_96 : decode cX6_copy 96 = .ok (.ireturn, 1) := by decide +kernel
theorem dX6_copy_97 : decode cX6_copy 97 = .ok (.aload 6, 2) := by decide +kernel
theorem dX6_copy_99 : decode cX6_copy 99 = .ok (.getfield 179, 3) := by decide +kernel
theorem dX6_copy_102 : decode cX6_copy 102 = .ok (.iload_n 2, 1) := by decide +kernel
theorem dX6_copy_103 : decode cX6_copy 103 = .ok (.aload 7, 2) := by decide +kernel
theorem dX6_copy_105 : decode cX6_copy 105 = .ok (.getfield 179, 3) := by decide +kernel
theorem dX6_copy_108 : decode cX6_copy 108 = .ok (.iload 4, 2) := by decide +kernel
theorem dX6_copy_110 : decode cX6_copy 110 = .ok (.iload 5, 2) := by decide +kernel
theorem dX6_copy_112 : decode cX6_copy 112 = .ok (.invokestatic 182, 3) := by decide +kernel
theorem dX6_copy_115 : decode cX6_copy 115 = .ok (.iconst 1, 1) := by decide +kernel
theorem dX6_copy_116 : decode cX6_copy 116 = .ok (.ireturn, 1) := by decide +kernel
theorem dX6_write_0 : decode cX6_write 0 = .ok (.aload_n 0, 1) := by decide +kernel
theorem dX6_write_1 : decode cX6_write 1 = .ok (.iload_n 2, 1) := by decide +kernel
theorem dX6_write_2 : decode cX6_write 2 = .ok (.invokevirtual 76, 3) := by decide +kernel
theorem dX6_write_5 : decode cX6_write 5 = .ok (.astore_n 3, 1) := by decide +kernel
theorem dX6_write_6 : decode cX6_write 6 = .ok (.iload_n 1, 1) := by decide +kernel
theorem dX6_write_7 : decode cX6_write 7 = .ok (.ifCond .lt 13, 3) := by decide +kernel
theorem dX6_write_10 : decode cX6_write 10 = .ok (.iload_n 1, 1) := by decide +kernel
theorem dX6_write_11 : decode cX6_write 11 = .ok (.bipush 99, 2) := by decide +kernel
theorem dX6_write_13 : decode cX6_write 13 = .ok (.if_icmp .gt 7, 3) := by decide +kernel
theorem dX6_write_16 : decode cX6_write 16 = .ok (.aload_n 3, 1) := by decide +kernel
theorem dX6_write_17 : decode cX6_write 17 = .ok (.ifnonnull 6, 3) := by decide +kernel
theorem dX6_write_20 : decode cX6_write 20 = .ok (.bipush (-2), 2) := by decide +kernel
theorem dX6_write_22 : decode cX6_write 22 = .ok (.ireturn, 1) := by decide +kernel
theorem dX6_write_23 : decode cX6_write 23 = .ok (.aload_n 3, 1) := by decide +kernel
theorem dX6_write_24 : decode cX6_write 24 = .ok (.invokevirtual 80, 3) := by decide +kernel
theorem dX6_write_27 : decode cX6_write 27 = .ok (.ifCond .eq 9, 3) := by decide +kernel
theorem dX6_write_30 : decode cX6_write 30 = .ok (.aload_n 0, 1) := by decide +kernel
theorem dX6_write_31 : decode cX6_write 31 = .ok (.iconst 1, 1) := by decide +kernel
theorem dX6_write_32 : decode cX6_write 32 = .ok (.invokevirtual 84, 3) := by decide +kernel
theorem dX6_write_35 : decode cX6_write 35 = .ok (.ireturn, 1) := by decide +kernel
theorem dX6_write_36 : decode cX6_write 36 = .ok (.iconst 0, 1) := by decide +kernel
theorem dX6_write_37 : decode cX6_write 37 = .ok (.aload_n 3, 1) := by decide +kernel
theorem dX6_write_38 : decode cX6_write 38 = .ok (.getfield 88, 3) := by decide +kernel
theorem dX6_write_41 : decode cX6_write 41 = .ok (.aload_n 0, 1) := by decide +kernel
theorem dX6_write_42 : decode cX6_write 42 = .ok (.getfield 42, 3) := by decide +kernel
theorem dX6_write_45 : decode cX6_write 45 = .ok (.iload_n 1, 1) := by decide +kernel
theorem dX6_write_46 : decode cX6_write 46 = .ok (.invokevirtual 129, 3) := by decide +kernel
theorem dX6_write_49 : decode cX6_write 49 = .ok (.invokestatic 188, 3) := by decide +kernel
theorem dX6_write_52 : decode cX6_write 52 = .ok (.invokestatic 193, 3) := by decide +kernel
theorem dX6_write_55 : decode cX6_write 55 = .ok (.istore 4, 2) := by decide +kernel
theorem dX6_write_57 : decode cX6_write 57 = .ok (.iconst 0, 1) := by decide +kernel
theorem dX6_write_58 : decode cX6_write 58 = .ok (.istore 5, 2) := by decide +kernel
theorem dX6_write_60 : decode cX6_write 60 = .ok (.iload 5, 2) := by decide +kernel
theorem dX6_write_62 : decode cX6_write 62 = .ok (.iload 4, 2) := by decide +kernel
theorem dX6_write_64 : decode cX6_write 64 = .ok (.if_icmp .ge 25, 3) := by decide +kernel
theorem dX6_write_67 : decode cX6_write 67 = .ok (.aload_n 3, 1) := by decide +kernel
theorem dX6_write_68 : decode cX6_write 68 = .ok (.iload 5, 2) := by decide +kernel
theorem dX6_write_70 : decode cX6_write 70 = .ok (.aload_n 0, 1) := by decide +kernel
theorem dX6_write_71 : decode cX6_write 71 = .ok (.getfield 42, 3) := by decide +kernel
theorem dX6_write_74 : decode cX6_write 74 = .ok (.iload_n 1, 1) := by decide +kernel
theorem dX6_write_75 : decode cX6_write 75 = .ok (.iload 5, 2) := by decide +kernel
theorem dX6_write_77 : decode cX6_write 77 = .ok (.invokevirtual 132, 3) := by decide +kernel
theorem dX6_write_80 : decode cX6_write 80 = .ok (.invokevirtual 168, 3) := by decide +kernel
theorem dX6_write_83 : decode cX6_write 83 = .ok (.iinc 5 1, 3) := by decide +kernel
theorem dX6_write_86 : decode cX6_write 86 = .ok (.goto (-26), 3) := by decide +kernel
theorem dX6_write_89 : decode cX6_write 89 = .ok (.iload 4, 2) := by decide +kernel
theorem dX6_write_91 : decode cX6_write 91 = .ok (.ireturn, 1) := by decide +kernel
theorem dX6_count_0 : decode cX6_count 0 = .ok (.iload_n 1, 1) := by decide +kernel
theorem dX6_count_1 : decode cX6_count 1 = .ok (.tableswitch 112 0 8 #[51, 59, 67, 75, 80, 89, 95, 101, 107], 51) := by decide +kernel
theorem dX6_count_52 : decode cX6_count 52 = .ok (.aload_n 0, 1) := by decide +kernel
theorem dX6_count_53 : decode cX6_count 53 = .ok (.getfield 10, 3) := by decide +kernel
theorem dX6_count_56 : decode cX6_count 56 = .ok (.getfield 70, 3) := by decide +kernel
theorem dX6_count_59 : decode cX6_count 59 = .ok (.ireturn, 1) := by decide +kernel
theorem dX6_count_60 : decode cX6_count 60 = .ok (.aload_n 0, 1) := by decide +kernel
theorem dX6_count_61 : decode cX6_count 61 = .ok (.getfield 10, 3) := by decide +kernel
theorem dX6_count_64 : decode cX6_count 64 = .ok (.getfield 196, 3) := by decide +kernel
theorem dX6_count_67 : decode cX6_count 67 = .ok (.ireturn, 1) := by decide +kernel
theorem dX6_count_68 : decode cX6_count 68 = .ok (.aload_n 0, 1) := by decide +kernel
theorem dX6_count_69 : decode cX6_count 69 = .ok (.getfield 10, 3) := by decide +kernel
theorem dX6_count_72 : decode cX6_count 72 = .ok (.getfield 136, 3) := by decide +kernel
theorem dX6_count_75 : decode cX6_count 75 = .ok (.ireturn, 1) := by decide +kernel
theorem dX6_count_76 : decode cX6_count 76 = .ok (.aload_n 0, 1) := by decide +kernel
theorem dX6_count_77 : decode cX6_count 77 = .ok (.getfield 53, 3) := by decide +kernel
theorem dX6_count_80 : decode cX6_count 80 = .ok (.ireturn, 1) := by decide +kernel
theorem dX6_count_81 : decode cX6_count 81 = .ok (.aload_n 0, 1) := by decide +kernel
theorem dX6_count_82 : decode cX6_count 82 = .ok (.getfield 19, 3) := by decide +kernel
theorem dX6_count_85 : decode cX6_count 85 = .ok (.iconst 0, 1) := by decide +kernel
theorem dX6_count_86 : decode cX6_count 86 = .ok (.invokevirtual 103, 3) := by decide +kernel
theorem dX6_count_89 : decode cX6_count 89 = .ok (.ireturn, 1) := by decide +kernel
theorem dX6_count_90 : decode cX6_count 90 = .ok (.aload_n 0, 1) := by decide +kernel
theorem dX6_count_91 : decode cX6_count 91 = .ok (.iconst 0, 1) := by decide +kernel
theorem dX6_count_92 : decode cX6_count 92 = .ok (.invokevirtual 199, 3) := by decide +kernel
theorem dX6_count_95 : decode cX6_count 95 = .ok (.ireturn, 1) := by decide +kernel
theorem dX6_count_96 : decode cX6_count 96 = .ok (.aload_n 0, 1) := by decide +kernel
theorem dX6_count_97 : decode cX6_count 97 = .ok (.iconst 1, 1) := by decide +kernel
theorem dX6_count_98 : decode cX6_count 98 = .ok (.invokevirtual 199, 3) := by decide +kernel
theorem dX6_count_101 : decode cX6_count 101 = .ok (.ireturn, 1) := by decide +kernel
theorem dX6_count_102 : decode cX6_count 102 = .ok (.aload_n 0, 1) := by decide +kernel
theorem dX6_count_103 : decode cX6_count 103 = .ok (.iconst 0, 1) := by decide +kernel
theorem dX6_count_104 : decode cX6_count 104 = .ok (.invokevirtual 202, 3) := by decide +kernel
theorem dX6_count_107 : decode cX6_count 107 = .ok (.ireturn, 1) := by decide +kernel
theorem dX6_count_108 : decode cX6_count 108 = .ok (.aload_n 0, 1) := by decide +kernel
theorem dX6_count_109 : decode cX6_count 109 = .ok (.getfield 205, 3) := by decide +kernel
theorem dX6_count_112 : decode cX6_count 112 = .ok (.ireturn, 1) := by decide +kernel
theorem dX6_count_113 : decode cX6_count 113 = .ok (.bipush (-2), 2) := by decide +kernel
theorem dX6_count_115 : decode cX6_count 115 = .ok (.ireturn, 1) := by decide +kernel
theorem dX6_digest_0 : decode cX6_digest 0 = .ok (.ldc2_w 208, 3) := by decide +kernel
theorem dX6_digest_3 : decode cX6_digest 3 = .ok (.lstore_n 1, 1) := by decide +kernel
theorem dX6_digest_4 : decode cX6_digest 4 = .ok (.iconst 0, 1) := by decide +kernel
theorem dX6_digest_5 : decode cX6_digest 5 = .ok (.istore_n 3, 1) := by decide +kernel
theorem dX6_digest_6 : decode cX6_digest 6 = .ok (.iload_n 3, 1) := by decide +kernel
theorem dX6_digest_7 : decode cX6_digest 7 = .ok (.bipush 7, 2) := by decide +kernel
theorem dX6_digest_9 : decode cX6_digest 9 = .ok (.if_icmp .gt 22, 3) := by decide +kernel
theorem dX6_digest_12 : decode cX6_digest 12 = .ok (.ldc2_w 210, 3) := by decide +kernel
theorem dX6_digest_15 : decode cX6_digest 15 = .ok (.lload_n 1, 1) := by decide +kernel
theorem dX6_digest_16 : decode cX6_digest 16 = .ok (.lmul, 1) := by decide +kernel
theorem dX6_digest_17 : decode cX6_digest 17 = .ok (.aload_n 0, 1) := by decide +kernel
theorem dX6_digest_18 : decode cX6_digest 18 = .ok (.iload_n 3, 1) := by decide +kernel
theorem dX6_digest_19 : decode cX6_digest 19 = .ok (.invokevirtual 212, 3) := by decide +kernel
theorem dX6_digest_22 : decode cX6_digest 22 = .ok (.i2l, 1) := by decide +kernel
theorem dX6_digest_23 : decode cX6_digest 23 = .ok (.ladd, 1) := by decide +kernel
theorem dX6_digest_24 : decode cX6_digest 24 = .ok (.lstore_n 1, 1) := by decide +kernel
theorem dX6_digest_25 : decode cX6_digest 25 = .ok (.iinc 3 1, 3) := by decide +kernel
theorem dX6_digest_28 : decode cX6_digest 28 = .ok (.goto (-22), 3) := by decide +kernel
theorem dX6_digest_31 : decode cX6_digest 31 = .ok (.ldc2_w 210, 3) := by decide +kernel
theorem dX6_digest_34 : decode cX6_digest 34 = .ok (.lload_n 1, 1) := by decide +kernel
theorem dX6_digest_35 : decode cX6_digest 35 = .ok (.lmul, 1) := by decide +kernel
theorem dX6_digest_36 : decode cX6_digest 36 = .ok (.aload_n 0, 1) := by decide +kernel
theorem dX6_digest_37 : decode cX6_digest 37 = .ok (.invokevirtual 215, 3) := by decide +kernel
theorem dX6_digest_40 : decode cX6_digest 40 = .ok (.i2l, 1) := by decide +kernel
theorem dX6_digest_41 : decode cX6_digest 41 = .ok (.ladd, 1) := by decide +kernel
theorem dX6_digest_42 : decode cX6_digest 42 = .ok (.lstore_n 1, 1) := by decide +kernel
theorem dX6_digest_43 : decode cX6_digest 43 = .ok (.aload_n 0, 1) := by decide +kernel
theorem dX6_digest_44 : decode cX6_digest 44 = .ok (.lload_n 1, 1) := by decide +kernel
theorem dX6_digest_45 : decode cX6_digest 45 = .ok (.invokevirtual 218, 3) := by decide +kernel
theorem dX6_digest_48 : decode cX6_digest 48 = .ok (.lstore_n 1, 1) := by decide +kernel
theorem dX6_digest_49 : decode cX6_digest 49 = .ok (.aload_n 0, 1) := by decide +kernel
theorem dX6_digest_50 : decode cX6_digest 50 = .ok (.lload_n 1, 1) := by decide +kernel
theorem dX6_digest_51 : decode cX6_digest 51 = .ok (.invokevirtual 222, 3) := by decide +kernel
theorem dX6_digest_54 : decode cX6_digest 54 = .ok (.lstore_n 1, 1) := by decide +kernel
theorem dX6_digest_55 : decode cX6_digest 55 = .ok (.aload_n 0, 1) := by decide +kernel
theorem dX6_digest_56 : decode cX6_digest 56 = .ok (.lload_n 1, 1) := by decide +kernel
theorem dX6_digest_57 : decode cX6_digest 57 = .ok (.invokevirtual 225, 3) := by decide +kernel
theorem dX6_digest_60 : decode cX6_digest 60 = .ok (.lreturn, 1) := by decide +kernel
theorem dX6_digestParts_0 : decode cX6_digestParts 0 = .ok (.lload_n 1, 1) := by decide +kernel
theorem dX6_digestParts_1 : decode cX6_digestParts 1 = .ok (.lstore_n 3, 1) := by decide +kernel
theorem dX6_digestParts_2 : decode cX6_digestParts 2 = .ok (.iconst 0, 1) := by decide +kernel
theorem dX6_digestParts_3 : decode cX6_digestParts 3 = .ok (.istore 5, 2) := by decide +kernel
theorem dX6_digestParts_5 : decode cX6_digestParts 5 = .ok (.iload 5, 2) := by decide +kernel
theorem dX6_digestParts_7 : decode cX6_digestParts 7 = .ok (.aload_n 0, 1) := by decide +kernel
theorem dX6_digestParts_8 : decode cX6_digestParts 8 = .ok (.getfield 10, 3) := by decide +kernel
theorem dX6_digestParts_11 : decode cX6_digestParts 11 = .ok (.getfield 196, 3) := by decide +kernel
theorem dX6_digestParts_14 : decode cX6_digestParts 14 = .ok (.if_icmp .ge 56, 3) := by decide +kernel
theorem dX6_digestParts_17 : decode cX6_digestParts 17 = .ok (.iconst 0, 1) := by decide +kernel
theorem dX6_digestParts_18 : decode cX6_digestParts 18 = .ok (.istore 6, 2) := by decide +kernel
theorem dX6_digestParts_20 : decode cX6_digestParts 20 = .ok (.iload 6, 2) := by decide +kernel
theorem dX6_digestParts_22 : decode cX6_digestParts 22 = .ok (.iconst 3, 1) := by decide +kernel
theorem dX6_digestParts_23 : decode cX6_digestParts 23 = .ok (.if_icmp .gt 25, 3) := by decide +kernel
theorem dX6_digestParts_26 : decode cX6_digestParts 26 = .ok (.ldc2_w 210, 3) := by decide +kernel
theorem dX6_digestParts_29 : decode cX6_digestParts 29 = .ok (.lload_n 3, 1) := by decide +kernel
theorem dX6_digestParts_30 : decode cX6_digestParts 30 = .ok (.lmul, 1) := by decide +kernel
theorem dX6_digestParts_31 : decode cX6_digestParts 31 = .ok (.aload_n 0, 1) := by decide +kernel
theorem dX6_digestParts_32 : decode cX6_digestParts 32 = .ok (.iload 5, 2) := by decide +kernel
theorem dX6_digestParts_34 : decode cX6_digestParts 34 = .ok (.iload 6, 2) := by decide +kernel
theorem dX6_digestParts_36 : decode cX6_digestParts 36 = .ok (.invokevirtual 228, 3) := by decide +kernel
theorem dX6_digestParts_39 : decode cX6_digestParts 39 = .ok (.i2l, 1) := by decide +kernel
theorem dX6_digestParts_40 : decode cX6_digestParts 40 = .ok (.ladd, 1) := by decide +kernel
theorem dX6_digestParts_41 : decode cX6_digestParts 41 = .ok (.lstore_n 3, 1) := by decide +kernel
theorem dX6_digestParts_42 : decode cX6_digestParts 42 = .ok (.iinc 6 1, 3) := by decide +kernel
theorem dX6_digestParts_45 : decode cX6_digestParts 45 = .ok (.goto (-25), 3) := by decide +kernel
theorem dX6_digestParts_48 : decode cX6_digestParts 48 = .ok (.aload_n 0, 1) := by decide +kernel
theorem dX6_digestParts_49 : decode cX6_digestParts 49 = .ok (.aload_n 0, 1) := by decide +kernel
theorem dX6_digestParts_50 : decode cX6_digestParts 50 = .ok (.lload_n 3, 1) := by decide +kernel
theorem dX6_digestParts_51 : decode cX6_digestParts 51 = .ok (.iload 5, 2) := by decide +kernel
theorem dX6_digestParts_53 : decode cX6_digestParts 53 = .ok (.iconst 0, 1) := by decide +kernel
theorem dX6_digestParts_54 : decode cX6_digestParts 54 = .ok (.invokevirtual 231, 3) := by decide +kernel
theorem dX6_digestParts_57 : decode cX6_digestParts 57 = .ok (.iload 5, 2) := by decide +kernel
theorem dX6_digestParts_59 : decode cX6_digestParts 59 = .ok (.iconst 1, 1) := by decide +kernel
theorem dX6_digestParts_60 : decode cX6_digestParts 60 = .ok (.invokevirtual 231, 3) := by decide +kernel
theorem dX6_digestParts_63 : decode cX6_digestParts 63 = .ok (.lstore_n 3, 1) := by decide +kernel
theorem dX6_digestParts_64 : decode cX6_digestParts 64 = .ok (.iinc 5 1, 3) := by decide +kernel
theorem dX6_digestParts_67 : decode cX6_digestParts 67 = .ok (.goto (-62), 3) := by decide +kernel
theorem dX6_digestParts_70 : decode cX6_digestParts 70 = .ok (.iconst 0, 1) := by decide +kernel
theorem dX6_digestParts_71 : decode cX6_digestParts 71 = .ok (.istore 5, 2) := by decide +kernel
theorem dX6_digestParts_73 : decode cX6_digestParts 73 = .ok (.iload 5, 2) := by decide +kernel
theorem dX6_digestParts_75 : decode cX6_digestParts 75 = .ok (.bipush 7, 2) := by decide +kernel
theorem dX6_digestParts_77 : decode cX6_digestParts 77 = .ok (.if_icmp .gt 18, 3) := by decide +kernel
theorem dX6_digestParts_80 : decode cX6_digestParts 80 = .ok (.aload_n 0, 1) := by decide +kernel
theorem dX6_digestParts_81 : decode cX6_digestParts 81 = .ok (.lload_n 3, 1) := by decide +kernel
theorem dX6_digestParts_82 : decode cX6_digestParts 82 = .ok (.iconst 0, 1) := by decide +kernel
theorem dX6_digestParts_83 : decode cX6_digestParts 83 = .ok (.iload 5, 2) := by decide +kernel
theorem dX6_digestParts_85 : decode cX6_digestParts 85 = .ok (.invokevirtual 231, 3) := by decide +kernel
theorem dX6_digestParts_88 : decode cX6_digestParts 88 = .ok (.lstore_n 3, 1) := by decide +kernel
theorem dX6_digestParts_89 : decode cX6_digestParts 89 = .ok (.iinc 5 1, 3) := by decide +kernel
theorem dX6_digestParts_92 : decode cX6_digestParts 92 = .ok (.goto (-19), 3) := by decide +kernel
theorem dX6_digestParts_95 : decode cX6_digestParts 95 = .ok (.lload_n 3, 1) := by decide +kernel
theorem dX6_digestParts_96 : decode cX6_digestParts 96 = .ok (.lreturn, 1) := by decide +kernel
theorem dX6_digestShape_0 : decode cX6_digestShape 0 = .ok (.lload_n 1, 1) := by decide +kernel
theorem dX6_digestShape_1 : decode cX6_digestShape 1 = .ok (.lstore 5, 2) := by decide +kernel
theorem dX6_digestShape_3 : decode cX6_digestShape 3 = .ok (.iconst 0, 1) := by decide +kernel
theorem dX6_digestShape_4 : decode cX6_digestShape 4 = .ok (.istore 7, 2) := by decide +kernel
theorem dX6_digestShape_6 : decode cX6_digestShape 6 = .ok (.iload 7, 2) := by decide +kernel
theorem dX6_digestShape_8 : decode cX6_digestShape 8 = .ok (.iconst 3, 1) := by decide +kernel
theorem dX6_digestShape_9 : decode cX6_digestShape 9 = .ok (.if_icmp .gt 28, 3) := by decide +kernel
theorem dX6_digestShape_12 : decode cX6_digestShape 12 = .ok (.ldc2_w 210, 3) := by decide +kernel
theorem dX6_digestShape_15 : decode cX6_digestShape 15 = .ok (.lload 5, 2) := by decide +kernel
theorem dX6_digestShape_17 : decode cX6_digestShape 17 = .ok (.lmul, 1) := by decide +kernel
theorem dX6_digestShape_18 : decode cX6_digestShape 18 = .ok (.aload_n 0, 1) := by decide +kernel
theorem dX6_digestShape_19 : decode cX6_digestShape 19 = .ok (.iload_n 3, 1) := by decide +kernel
theorem dX6_digestShape_20 : decode cX6_digestShape 20 = .ok (.iload 4, 2) := by decide +kernel
theorem dX6_digestShape_22 : decode cX6_digestShape 22 = .ok (.iload 7, 2) := by decide +kernel
theorem dX6_digestShape_24 : decode cX6_digestShape 24 = .ok (.invokevirtual 235, 3) := by decide +kernel
theorem dX6_digestShape_27 : decode cX6_digestShape 27 = .ok (.i2l, 1) := by decide +kernel
theorem dX6_digestShape_28 : decode cX6_digestShape 28 = .ok (.ladd, 1) := by decide +kernel
theorem dX6_digestShape_29 : decode cX6_digestShape 29 = .ok (.lstore 5, 2) := by decide +kernel
theorem dX6_digestShape_31 : decode cX6_digestShape 31 = .ok (.iinc 7 1, 3) := by decide +kernel
theorem dX6_digestShape_34 : decode cX6_digestShape 34 = .ok (.goto (-28), 3) := by decide +kernel
theorem dX6_digestShape_37 : decode cX6_digestShape 37 = .ok (.lload 5, 2) := by decide +kernel
theorem dX6_digestShape_39 : decode cX6_digestShape 39 = .ok (.lreturn, 1) := by decide +kernel
theorem dX6_digestBest_0 : decode cX6_digestBest 0 = .ok (.ldc2_w 210, 3) := by decide +kernel
theorem dX6_digestBest_3 : decode cX6_digestBest 3 = .ok (.ldc2_w 210, 3) := by decide +kernel
theorem dX6_digestBest_6 : decode cX6_digestBest 6 = .ok (.lload_n 1, 1) := by decide +kernel
theorem dX6_digestBest_7 : decode cX6_digestBest 7 = .ok (.lmul, 1) := by decide +kernel
theorem dX6_digestBest_8 : decode cX6_digestBest 8 = .ok (.aload_n 0, 1) := by decide +kernel
theorem dX6_digestBest_9 : decode cX6_digestBest 9 = .ok (.iconst 0, 1) := by decide +kernel
theorem dX6_digestBest_10 : decode cX6_digestBest 10 = .ok (.invokevirtual 199, 3) := by decide +kernel
theorem dX6_digestBest_13 : decode cX6_digestBest 13 = .ok (.i2l, 1) := by decide +kernel
theorem dX6_digestBest_14 : decode cX6_digestBest 14 = .ok (.ladd, 1) := by decide +kernel
theorem dX6_digestBest_15 : decode cX6_digestBest 15 = .ok (.lmul, 1) := by decide +kernel
theorem dX6_digestBest_16 : decode cX6_digestBest 16 = .ok (.aload_n 0, 1) := by decide +kernel
theorem dX6_digestBest_17 : decode cX6_digestBest 17 = .ok (.iconst 1, 1) := by decide +kernel
theorem dX6_digestBest_18 : decode cX6_digestBest 18 = .ok (.invokevirtual 199, 3) := by decide +kernel
theorem dX6_digestBest_21 : decode cX6_digestBest 21 = .ok (.i2l, 1) := by decide +kernel
theorem dX6_digestBest_22 : decode cX6_digestBest 22 = .ok (.ladd, 1) := by decide +kernel
theorem dX6_digestBest_23 : decode cX6_digestBest 23 = .ok (.lstore_n 3, 1) := by decide +kernel
theorem dX6_digestBest_24 : decode cX6_digestBest 24 = .ok (.iconst 0, 1) := by decide +kernel
theorem dX6_digestBest_25 : decode cX6_digestBest 25 = .ok (.istore 5, 2) := by decide +kernel
theorem dX6_digestBest_27 : decode cX6_digestBest 27 = .ok (.iload 5, 2) := by decide +kernel
theorem dX6_digestBest_29 : decode cX6_digestBest 29 = .ok (.iconst 4, 1) := by decide +kernel
theorem dX6_digestBest_30 : decode cX6_digestBest 30 = .ok (.if_icmp .gt 23, 3) := by decide +kernel
theorem dX6_digestBest_33 : decode cX6_digestBest 33 = .ok (.ldc2_w 210, 3) := by decide +kernel
theorem dX6_digestBest_36 : decode cX6_digestBest 36 = .ok (.lload_n 3, 1) := by decide +kernel
theorem dX6_digestBest_37 : decode cX6_digestBest 37 = .ok (.lmul, 1) := by decide +kernel
theorem dX6_digestBest_38 : decode cX6_digestBest 38 = .ok (.aload_n 0, 1) := by decide +kernel
theorem dX6_digestBest_39 : decode cX6_digestBest 39 = .ok (.iload 5, 2) := by decide +kernel
theorem dX6_digestBest_41 : decode cX6_digestBest 41 = .ok (.invokevirtual 202, 3) := by decide +kernel
theorem dX6_digestBest_44 : decode cX6_digestBest 44 = .ok (.i2l, 1) := by decide +kernel
theorem dX6_digestBest_45 : decode cX6_digestBest 45 = .ok (.ladd, 1) := by decide +kernel
theorem dX6_digestBest_46 : decode cX6_digestBest 46 = .ok (.lstore_n 3, 1) := by decide +kernel
theorem dX6_digestBest_47 : decode cX6_digestBest 47 = .ok (.iinc 5 1, 3) := by decide +kernel
theorem dX6_digestBest_50 : decode cX6_digestBest 50 = .ok (.goto (-23), 3) := by decide +kernel
theorem dX6_digestBest_53 : decode cX6_digestBest 53 = .ok (.iconst 0, 1) := by decide +kernel
theorem dX6_digestBest_54 : decode cX6_digestBest 54 = .ok (.istore 5, 2) := by decide +kernel
theorem dX6_digestBest_56 : decode cX6_digestBest 56 = .ok (.iload 5, 2) := by decide +kernel
theorem dX6_digestBest_58 : decode cX6_digestBest 58 = .ok (.bipush 9, 2) := by decide +kernel
theorem dX6_digestBest_60 : decode cX6_digestBest 60 = .ok (.if_icmp .gt 54, 3) := by decide +kernel
theorem dX6_digestBest_63 : decode cX6_digestBest 63 = .ok (.ldc2_w 210, 3) := by decide +kernel
theorem dX6_digestBest_66 : decode cX6_digestBest 66 = .ok (.lload_n 3, 1) := by decide +kernel
theorem dX6_digestBest_67 : decode cX6_digestBest 67 = .ok (.lmul, 1) := by decide +kernel
theorem dX6_digestBest_68 : decode cX6_digestBest 68 = .ok (.aload_n 0, 1) := by decide +kernel
theorem dX6_digestBest_69 : decode cX6_digestBest 69 = .ok (.iload 5, 2) := by decide +kernel
theorem dX6_digestBest_71 : decode cX6_digestBest 71 = .ok (.iconst (-1), 1) := by decide +kernel
theorem dX6_digestBest_72 : decode cX6_digestBest 72 = .ok (.invokevirtual 239, 3) := by decide +kernel
theorem dX6_digestBest_75 : decode cX6_digestBest 75 = .ok (.i2l, 1) := by decide +kernel
theorem dX6_digestBest_76 : decode cX6_digestBest 76 = .ok (.ladd, 1) := by decide +kernel
theorem dX6_digestBest_77 : decode cX6_digestBest 77 = .ok (.lstore_n 3, 1) := by decide +kernel
theorem dX6_digestBest_78 : decode cX6_digestBest 78 = .ok (.ldc2_w 210, 3) := by decide +kernel
theorem dX6_digestBest_81 : decode cX6_digestBest 81 = .ok (.lload_n 3, 1) := by decide +kernel
theorem dX6_digestBest_82 : decode cX6_digestBest 82 = .ok (.lmul, 1) := by decide +kernel
theorem dX6_digestBest_83 : decode cX6_digestBest 83 = .ok (.aload_n 0, 1) := by decide +kernel
theorem dX6_digestBest_84 : decode cX6_digestBest 84 = .ok (.iload 5, 2) := by decide +kernel
theorem dX6_digestBest_86 : decode cX6_digestBest 86 = .ok (.iconst 0, 1) := by decide +kernel
theorem dX6_digestBest_87 : decode cX6_digestBest 87 = .ok (.invokevirtual 239, 3) := by decide +kernel
theorem dX6_digestBest_90 : decode cX6_digestBest 90 = .ok (.i2l, 1) := by decide +kernel
theorem dX6_digestBest_91 : decode cX6_digestBest 91 = .ok (.ladd, 1) := by decide +kernel
theorem dX6_digestBest_92 : decode cX6_digestBest 92 = .ok (.lstore_n 3, 1) := by decide +kernel
theorem dX6_digestBest_93 : decode cX6_digestBest 93 = .ok (.ldc2_w 210, 3) := by decide +kernel
theorem dX6_digestBest_96 : decode cX6_digestBest 96 = .ok (.lload_n 3, 1) := by decide +kernel
theorem dX6_digestBest_97 : decode cX6_digestBest 97 = .ok (.lmul, 1) := by decide +kernel
theorem dX6_digestBest_98 : decode cX6_digestBest 98 = .ok (.aload_n 0, 1) := by decide +kernel
theorem dX6_digestBest_99 : decode cX6_digestBest 99 = .ok (.iload 5, 2) := by decide +kernel
theorem dX6_digestBest_101 : decode cX6_digestBest 101 = .ok (.iconst 5, 1) := by decide +kernel
theorem dX6_digestBest_102 : decode cX6_digestBest 102 = .ok (.invokevirtual 239, 3) := by decide +kernel
theorem dX6_digestBest_105 : decode cX6_digestBest 105 = .ok (.i2l, 1) := by decide +kernel
theorem dX6_digestBest_106 : decode cX6_digestBest 106 = .ok (.ladd, 1) := by decide +kernel
theorem dX6_digestBest_107 : decode cX6_digestBest 107 = .ok (.lstore_n 3, 1) := by decide +kernel
theorem dX6_digestBest_108 : decode cX6_digestBest 108 = .ok (.iinc 5 1, 3) := by decide +kernel
theorem dX6_digestBest_111 : decode cX6_digestBest 111 = .ok (.goto (-55), 3) := by decide +kernel
theorem dX6_digestBest_114 : decode cX6_digestBest 114 = .ok (.lload_n 3, 1) := by decide +kernel
theorem dX6_digestBest_115 : decode cX6_digestBest 115 = .ok (.lreturn, 1) := by decide +kernel
theorem dX6_digestWays_0 : decode cX6_digestWays 0 = .ok (.lload_n 1, 1) := by decide +kernel
theorem dX6_digestWays_1 : decode cX6_digestWays 1 = .ok (.lstore_n 3, 1) := by decide +kernel
theorem dX6_digestWays_2 : decode cX6_digestWays 2 = .ok (.iconst 0, 1) := by decide +kernel
theorem dX6_digestWays_3 : decode cX6_digestWays 3 = .ok (.istore 5, 2) := by decide +kernel
theorem dX6_digestWays_5 : decode cX6_digestWays 5 = .ok (.iload 5, 2) := by decide +kernel
theorem dX6_digestWays_7 : decode cX6_digestWays 7 = .ok (.bipush 64, 2) := by decide +kernel
theorem dX6_digestWays_9 : decode cX6_digestWays 9 = .ok (.if_icmp .ge 40, 3) := by decide +kernel
theorem dX6_digestWays_12 : decode cX6_digestWays 12 = .ok (.iconst 0, 1) := by decide +kernel
theorem dX6_digestWays_13 : decode cX6_digestWays 13 = .ok (.istore 6, 2) := by decide +kernel
theorem dX6_digestWays_15 : decode cX6_digestWays 15 = .ok (.iload 6, 2) := by decide +kernel
theorem dX6_digestWays_17 : decode cX6_digestWays 17 = .ok (.iconst 2, 1) := by decide +kernel
theorem dX6_digestWays_18 : decode cX6_digestWays 18 = .ok (.if_icmp .gt 25, 3) := by decide +kernel
theorem dX6_digestWays_21 : decode cX6_digestWays 21 = .ok (.ldc2_w 210, 3) := by decide +kernel
theorem dX6_digestWays_24 : decode cX6_digestWays 24 = .ok (.lload_n 3, 1) := by decide +kernel
theorem dX6_digestWays_25 : decode cX6_digestWays 25 = .ok (.lmul, 1) := by decide +kernel
theorem dX6_digestWays_26 : decode cX6_digestWays 26 = .ok (.aload_n 0, 1) := by decide +kernel
theorem dX6_digestWays_27 : decode cX6_digestWays 27 = .ok (.iload 5, 2) := by decide +kernel
theorem dX6_digestWays_29 : decode cX6_digestWays 29 = .ok (.iload 6, 2) := by decide +kernel
theorem dX6_digestWays_31 : decode cX6_digestWays 31 = .ok (.invokevirtual 242, 3) := by decide +kernel
theorem dX6_digestWays_34 : decode cX6_digestWays 34 = .ok (.i2l, 1) := by decide +kernel
theorem dX6_digestWays_35 : decode cX6_digestWays 35 = .ok (.ladd, 1) := by decide +kernel
theorem dX6_digestWays_36 : decode cX6_digestWays 36 = .ok (.lstore_n 3, 1) := by decide +kernel
theorem dX6_digestWays_37 : decode cX6_digestWays 37 = .ok (.iinc 6 1, 3) := by decide +kernel
theorem dX6_digestWays_40 : decode cX6_digestWays 40 = .ok (.goto (-25), 3) := by decide +kernel
theorem dX6_digestWays_43 : decode cX6_digestWays 43 = .ok (.iinc 5 1, 3) := by decide +kernel
theorem dX6_digestWays_46 : decode cX6_digestWays 46 = .ok (.goto (-41), 3) := by decide +kernel
end
section
theorem dX6_digestWays_49 : decode cX6_digestWays 49 = .ok (.iconst 0, 1) := by decide +kernel
theorem dX6_digestWays_50 : decode cX6_digestWays 50 = .ok (.istore 5, 2) := by decide +kernel
theorem dX6_digestWays_52 : decode cX6_digestWays 52 = .ok (.iload 5, 2) := by decide +kernel
theorem dX6_digestWays_54 : decode cX6_digestWays 54 = .ok (.iconst 2, 1) := by decide +kernel
theorem dX6_digestWays_55 : decode cX6_digestWays 55 = .ok (.if_icmp .gt 23, 3) := by decide +kernel
theorem dX6_digestWays_58 : decode cX6_digestWays 58 = .ok (.ldc2_w 210, 3) := by decide +kernel
theorem dX6_digestWays_61 : decode cX6_digestWays 61 = .ok (.lload_n 3, 1) := by decide +kernel
theorem dX6_digestWays_62 : decode cX6_digestWays 62 = .ok (.lmul, 1) := by decide +kernel
theorem dX6_digestWays_63 : decode cX6_digestWays 63 = .ok (.aload_n 0, 1) := by decide +kernel
theorem dX6_digestWays_64 : decode cX6_digestWays 64 = .ok (.iload 5, 2) := by decide +kernel
theorem dX6_digestWays_66 : decode cX6_digestWays 66 = .ok (.invokevirtual 245, 3) := by decide +kernel
theorem dX6_digestWays_69 : decode cX6_digestWays 69 = .ok (.i2l, 1) := by decide +kernel
theorem dX6_digestWays_70 : decode cX6_digestWays 70 = .ok (.ladd, 1) := by decide +kernel
theorem dX6_digestWays_71 : decode cX6_digestWays 71 = .ok (.lstore_n 3, 1) := by decide +kernel
theorem dX6_digestWays_72 : decode cX6_digestWays 72 = .ok (.iinc 5 1, 3) := by decide +kernel
theorem dX6_digestWays_75 : decode cX6_digestWays 75 = .ok (.goto (-23), 3) := by decide +kernel
theorem dX6_digestWays_78 : decode cX6_digestWays 78 = .ok (.ldc2_w 210, 3) := by decide +kernel
theorem dX6_digestWays_81 : decode cX6_digestWays 81 = .ok (.lload_n 3, 1) := by decide +kernel
theorem dX6_digestWays_82 : decode cX6_digestWays 82 = .ok (.lmul, 1) := by decide +kernel
theorem dX6_digestWays_83 : decode cX6_digestWays 83 = .ok (.aload_n 0, 1) := by decide +kernel
theorem dX6_digestWays_84 : decode cX6_digestWays 84 = .ok (.invokevirtual 248, 3) := by decide +kernel
theorem dX6_digestWays_87 : decode cX6_digestWays 87 = .ok (.i2l, 1) := by decide +kernel
theorem dX6_digestWays_88 : decode cX6_digestWays 88 = .ok (.ladd, 1) := by decide +kernel
theorem dX6_digestWays_89 : decode cX6_digestWays 89 = .ok (.lstore_n 3, 1) := by decide +kernel
theorem dX6_digestWays_90 : decode cX6_digestWays 90 = .ok (.ldc2_w 210, 3) := by decide +kernel
theorem dX6_digestWays_93 : decode cX6_digestWays 93 = .ok (.lload_n 3, 1) := by decide +kernel
theorem dX6_digestWays_94 : decode cX6_digestWays 94 = .ok (.lmul, 1) := by decide +kernel
theorem dX6_digestWays_95 : decode cX6_digestWays 95 = .ok (.aload_n 0, 1) := by decide +kernel
theorem dX6_digestWays_96 : decode cX6_digestWays 96 = .ok (.iconst (-1), 1) := by decide +kernel
theorem dX6_digestWays_97 : decode cX6_digestWays 97 = .ok (.invokevirtual 251, 3) := by decide +kernel
theorem dX6_digestWays_100 : decode cX6_digestWays 100 = .ok (.i2l, 1) := by decide +kernel
theorem dX6_digestWays_101 : decode cX6_digestWays 101 = .ok (.ladd, 1) := by decide +kernel
theorem dX6_digestWays_102 : decode cX6_digestWays 102 = .ok (.lstore_n 3, 1) := by decide +kernel
theorem dX6_digestWays_103 : decode cX6_digestWays 103 = .ok (.ldc2_w 210, 3) := by decide +kernel
theorem dX6_digestWays_106 : decode cX6_digestWays 106 = .ok (.lload_n 3, 1) := by decide +kernel
theorem dX6_digestWays_107 : decode cX6_digestWays 107 = .ok (.lmul, 1) := by decide +kernel
theorem dX6_digestWays_108 : decode cX6_digestWays 108 = .ok (.aload_n 0, 1) := by decide +kernel
theorem dX6_digestWays_109 : decode cX6_digestWays 109 = .ok (.iconst 0, 1) := by decide +kernel
theorem dX6_digestWays_110 : decode cX6_digestWays 110 = .ok (.invokevirtual 251, 3) := by decide +kernel
theorem dX6_digestWays_113 : decode cX6_digestWays 113 = .ok (.i2l, 1) := by decide +kernel
theorem dX6_digestWays_114 : decode cX6_digestWays 114 = .ok (.ladd, 1) := by decide +kernel
theorem dX6_digestWays_115 : decode cX6_digestWays 115 = .ok (.lstore_n 3, 1) := by decide +kernel
theorem dX6_digestWays_116 : decode cX6_digestWays 116 = .ok (.ldc2_w 210, 3) := by decide +kernel
theorem dX6_digestWays_119 : decode cX6_digestWays 119 = .ok (.lload_n 3, 1) := by decide +kernel
theorem dX6_digestWays_120 : decode cX6_digestWays 120 = .ok (.lmul, 1) := by decide +kernel
theorem dX6_digestWays_121 : decode cX6_digestWays 121 = .ok (.aload_n 0, 1) := by decide +kernel
theorem dX6_digestWays_122 : decode cX6_digestWays 122 = .ok (.iconst 1, 1) := by decide +kernel
theorem dX6_digestWays_123 : decode cX6_digestWays 123 = .ok (.invokevirtual 251, 3) := by decide +kernel
theorem dX6_digestWays_126 : decode cX6_digestWays 126 = .ok (.i2l, 1) := by decide +kernel
theorem dX6_digestWays_127 : decode cX6_digestWays 127 = .ok (.ladd, 1) := by decide +kernel
theorem dX6_digestWays_128 : decode cX6_digestWays 128 = .ok (.lstore_n 3, 1) := by decide +kernel
theorem dX6_digestWays_129 : decode cX6_digestWays 129 = .ok (.ldc2_w 210, 3) := by decide +kernel
theorem dX6_digestWays_132 : decode cX6_digestWays 132 = .ok (.lload_n 3, 1) := by decide +kernel
theorem dX6_digestWays_133 : decode cX6_digestWays 133 = .ok (.lmul, 1) := by decide +kernel
theorem dX6_digestWays_134 : decode cX6_digestWays 134 = .ok (.aload_n 0, 1) := by decide +kernel
theorem dX6_digestWays_135 : decode cX6_digestWays 135 = .ok (.invokevirtual 254, 3) := by decide +kernel
theorem dX6_digestWays_138 : decode cX6_digestWays 138 = .ok (.i2l, 1) := by decide +kernel
theorem dX6_digestWays_139 : decode cX6_digestWays 139 = .ok (.ladd, 1) := by decide +kernel
theorem dX6_digestWays_140 : decode cX6_digestWays 140 = .ok (.lreturn, 1) := by decide +kernel
theorem dX6_readDoc_0 : decode cX6_readDoc 0 = .ok (.aload_n 0, 1) := by decide +kernel
theorem dX6_readDoc_1 : decode cX6_readDoc 1 = .ok (.getfield 10, 3) := by decide +kernel
theorem dX6_readDoc_4 : decode cX6_readDoc 4 = .ok (.invokevirtual 257, 3) := by decide +kernel
theorem dX6_readDoc_7 : decode cX6_readDoc 7 = .ok (.aload_n 0, 1) := by decide +kernel
theorem dX6_readDoc_8 : decode cX6_readDoc 8 = .ok (.getfield 35, 3) := by decide +kernel
theorem dX6_readDoc_11 : decode cX6_readDoc 11 = .ok (.aload_n 0, 1) := by decide +kernel
theorem dX6_readDoc_12 : decode cX6_readDoc 12 = .ok (.getfield 10, 3) := by decide +kernel
theorem dX6_readDoc_15 : decode cX6_readDoc 15 = .ok (.invokevirtual 260, 3) := by decide +kernel
theorem dX6_readDoc_18 : decode cX6_readDoc 18 = .ok (.return_, 1) := by decide +kernel
theorem dX6_chooseBest_0 : decode cX6_chooseBest 0 = .ok (.aload_n 0, 1) := by decide +kernel
theorem dX6_chooseBest_1 : decode cX6_chooseBest 1 = .ok (.getfield 19, 3) := by decide +kernel
theorem dX6_chooseBest_4 : decode cX6_chooseBest 4 = .ok (.aload_n 0, 1) := by decide +kernel
theorem dX6_chooseBest_5 : decode cX6_chooseBest 5 = .ok (.getfield 10, 3) := by decide +kernel
theorem dX6_chooseBest_8 : decode cX6_chooseBest 8 = .ok (.aload_n 0, 1) := by decide +kernel
theorem dX6_chooseBest_9 : decode cX6_chooseBest 9 = .ok (.getfield 53, 3) := by decide +kernel
theorem dX6_chooseBest_12 : decode cX6_chooseBest 12 = .ok (.invokevirtual 264, 3) := by decide +kernel
theorem dX6_chooseBest_15 : decode cX6_chooseBest 15 = .ok (.aload_n 0, 1) := by decide +kernel
theorem dX6_chooseBest_16 : decode cX6_chooseBest 16 = .ok (.getfield 19, 3) := by decide +kernel
theorem dX6_chooseBest_19 : decode cX6_chooseBest 19 = .ok (.invokevirtual 267, 3) := by decide +kernel
theorem dX6_chooseBest_22 : decode cX6_chooseBest 22 = .ok (.istore_n 1, 1) := by decide +kernel
theorem dX6_chooseBest_23 : decode cX6_chooseBest 23 = .ok (.aload_n 0, 1) := by decide +kernel
theorem dX6_chooseBest_24 : decode cX6_chooseBest 24 = .ok (.aload_n 0, 1) := by decide +kernel
theorem dX6_chooseBest_25 : decode cX6_chooseBest 25 = .ok (.getfield 10, 3) := by decide +kernel
theorem dX6_chooseBest_28 : decode cX6_chooseBest 28 = .ok (.getfield 196, 3) := by decide +kernel
theorem dX6_chooseBest_31 : decode cX6_chooseBest 31 = .ok (.ifCond .le 12, 3) := by decide +kernel
theorem dX6_chooseBest_34 : decode cX6_chooseBest 34 = .ok (.iload_n 1, 1) := by decide +kernel
theorem dX6_chooseBest_35 : decode cX6_chooseBest 35 = .ok (.iconst (-1), 1) := by decide +kernel
theorem dX6_chooseBest_36 : decode cX6_chooseBest 36 = .ok (.if_icmp .ne 7, 3) := by decide +kernel
theorem dX6_chooseBest_39 : decode cX6_chooseBest 39 = .ok (.iconst 1, 1) := by decide +kernel
theorem dX6_chooseBest_40 : decode cX6_chooseBest 40 = .ok (.goto 4, 3) := by decide +kernel
theorem dX6_chooseBest_43 : decode cX6_chooseBest 43 = .ok (.iconst 0, 1) := by decide +kernel
theorem dX6_chooseBest_44 : decode cX6_chooseBest 44 = .ok (.putfield 126, 3) := by decide +kernel
theorem dX6_chooseBest_47 : decode cX6_chooseBest 47 = .ok (.aload_n 0, 1) := by decide +kernel
theorem dX6_chooseBest_48 : decode cX6_chooseBest 48 = .ok (.getfield 126, 3) := by decide +kernel
theorem dX6_chooseBest_51 : decode cX6_chooseBest 51 = .ok (.ifCond .eq 25, 3) := by decide +kernel
theorem dX6_chooseBest_54 : decode cX6_chooseBest 54 = .ok (.aload_n 0, 1) := by decide +kernel
theorem dX6_chooseBest_55 : decode cX6_chooseBest 55 = .ok (.getfield 19, 3) := by decide +kernel
theorem dX6_chooseBest_58 : decode cX6_chooseBest 58 = .ok (.aload_n 0, 1) := by decide +kernel
theorem dX6_chooseBest_59 : decode cX6_chooseBest 59 = .ok (.getfield 10, 3) := by decide +kernel
theorem dX6_chooseBest_62 : decode cX6_chooseBest 62 = .ok (.sipush 1000, 3) := by decide +kernel
theorem dX6_chooseBest_65 : decode cX6_chooseBest 65 = .ok (.invokevirtual 264, 3) := by decide +kernel
theorem dX6_chooseBest_68 : decode cX6_chooseBest 68 = .ok (.aload_n 0, 1) := by decide +kernel
theorem dX6_chooseBest_69 : decode cX6_chooseBest 69 = .ok (.getfield 19, 3) := by decide +kernel
theorem dX6_chooseBest_72 : decode cX6_chooseBest 72 = .ok (.invokevirtual 269, 3) := by decide +kernel
theorem dX6_chooseBest_75 : decode cX6_chooseBest 75 = .ok (.istore_n 1, 1) := by decide +kernel
theorem dX6_chooseBest_76 : decode cX6_chooseBest 76 = .ok (.aload_n 0, 1) := by decide +kernel
theorem dX6_chooseBest_77 : decode cX6_chooseBest 77 = .ok (.iload_n 1, 1) := by decide +kernel
theorem dX6_chooseBest_78 : decode cX6_chooseBest 78 = .ok (.iconst (-1), 1) := by decide +kernel
theorem dX6_chooseBest_79 : decode cX6_chooseBest 79 = .ok (.if_icmp .eq 7, 3) := by decide +kernel
theorem dX6_chooseBest_82 : decode cX6_chooseBest 82 = .ok (.iconst 1, 1) := by decide +kernel
theorem dX6_chooseBest_83 : decode cX6_chooseBest 83 = .ok (.goto 4, 3) := by decide +kernel
theorem dX6_chooseBest_86 : decode cX6_chooseBest 86 = .ok (.iconst 0, 1) := by decide +kernel
theorem dX6_chooseBest_87 : decode cX6_chooseBest 87 = .ok (.putfield 122, 3) := by decide +kernel
theorem dX6_chooseBest_90 : decode cX6_chooseBest 90 = .ok (.aload_n 0, 1) := by decide +kernel
theorem dX6_chooseBest_91 : decode cX6_chooseBest 91 = .ok (.getfield 42, 3) := by decide +kernel
theorem dX6_chooseBest_94 : decode cX6_chooseBest 94 = .ok (.invokevirtual 272, 3) := by decide +kernel
theorem dX6_chooseBest_97 : decode cX6_chooseBest 97 = .ok (.aload_n 0, 1) := by decide +kernel
theorem dX6_chooseBest_98 : decode cX6_chooseBest 98 = .ok (.getfield 122, 3) := by decide +kernel
theorem dX6_chooseBest_101 : decode cX6_chooseBest 101 = .ok (.ifCond .eq 8, 3) := by decide +kernel
theorem dX6_chooseBest_104 : decode cX6_chooseBest 104 = .ok (.aload_n 0, 1) := by decide +kernel
theorem dX6_chooseBest_105 : decode cX6_chooseBest 105 = .ok (.iload_n 1, 1) := by decide +kernel
theorem dX6_chooseBest_106 : decode cX6_chooseBest 106 = .ok (.invokevirtual 275, 3) := by decide +kernel
theorem dX6_chooseBest_109 : decode cX6_chooseBest 109 = .ok (.aload_n 0, 1) := by decide +kernel
theorem dX6_chooseBest_110 : decode cX6_chooseBest 110 = .ok (.getfield 126, 3) := by decide +kernel
theorem dX6_chooseBest_113 : decode cX6_chooseBest 113 = .ok (.ifCond .eq 18, 3) := by decide +kernel
theorem dX6_chooseBest_116 : decode cX6_chooseBest 116 = .ok (.aload_n 0, 1) := by decide +kernel
theorem dX6_chooseBest_117 : decode cX6_chooseBest 117 = .ok (.getfield 19, 3) := by decide +kernel
theorem dX6_chooseBest_120 : decode cX6_chooseBest 120 = .ok (.aload_n 0, 1) := by decide +kernel
theorem dX6_chooseBest_121 : decode cX6_chooseBest 121 = .ok (.getfield 10, 3) := by decide +kernel
theorem dX6_chooseBest_124 : decode cX6_chooseBest 124 = .ok (.aload_n 0, 1) := by decide +kernel
theorem dX6_chooseBest_125 : decode cX6_chooseBest 125 = .ok (.getfield 53, 3) := by decide +kernel
theorem dX6_chooseBest_128 : decode cX6_chooseBest 128 = .ok (.invokevirtual 264, 3) := by decide +kernel
theorem dX6_chooseBest_131 : decode cX6_chooseBest 131 = .ok (.return_, 1) := by decide +kernel
theorem dX6_keepBest_0 : decode cX6_keepBest 0 = .ok (.aload_n 0, 1) := by decide +kernel
theorem dX6_keepBest_1 : decode cX6_keepBest 1 = .ok (.getfield 19, 3) := by decide +kernel
theorem dX6_keepBest_4 : decode cX6_keepBest 4 = .ok (.getfield 109, 3) := by decide +kernel
theorem dX6_keepBest_7 : decode cX6_keepBest 7 = .ok (.astore_n 2, 1) := by decide +kernel
theorem dX6_keepBest_8 : decode cX6_keepBest 8 = .ok (.aload_n 0, 1) := by decide +kernel
theorem dX6_keepBest_9 : decode cX6_keepBest 9 = .ok (.getfield 28, 3) := by decide +kernel
theorem dX6_keepBest_12 : decode cX6_keepBest 12 = .ok (.iconst 0, 1) := by decide +kernel
theorem dX6_keepBest_13 : decode cX6_keepBest 13 = .ok (.aload_n 2, 1) := by decide +kernel
theorem dX6_keepBest_14 : decode cX6_keepBest 14 = .ok (.iload_n 1, 1) := by decide +kernel
theorem dX6_keepBest_15 : decode cX6_keepBest 15 = .ok (.iconst 0, 1) := by decide +kernel
theorem dX6_keepBest_16 : decode cX6_keepBest 16 = .ok (.invokevirtual 112, 3) := by decide +kernel
theorem dX6_keepBest_19 : decode cX6_keepBest 19 = .ok (.aload_n 2, 1) := by decide +kernel
theorem dX6_keepBest_20 : decode cX6_keepBest 20 = .ok (.iload_n 1, 1) := by decide +kernel
theorem dX6_keepBest_21 : decode cX6_keepBest 21 = .ok (.iconst 1, 1) := by decide +kernel
theorem dX6_keepBest_22 : decode cX6_keepBest 22 = .ok (.invokevirtual 112, 3) := by decide +kernel
theorem dX6_keepBest_25 : decode cX6_keepBest 25 = .ok (.aload_n 2, 1) := by decide +kernel
theorem dX6_keepBest_26 : decode cX6_keepBest 26 = .ok (.iload_n 1, 1) := by decide +kernel
theorem dX6_keepBest_27 : decode cX6_keepBest 27 = .ok (.iconst 2, 1) := by decide +kernel
theorem dX6_keepBest_28 : decode cX6_keepBest 28 = .ok (.invokevirtual 112, 3) := by decide +kernel
theorem dX6_keepBest_31 : decode cX6_keepBest 31 = .ok (.aload_n 2, 1) := by decide +kernel
theorem dX6_keepBest_32 : decode cX6_keepBest 32 = .ok (.iload_n 1, 1) := by decide +kernel
theorem dX6_keepBest_33 : decode cX6_keepBest 33 = .ok (.iconst 3, 1) := by decide +kernel
theorem dX6_keepBest_34 : decode cX6_keepBest 34 = .ok (.invokevirtual 112, 3) := by decide +kernel
theorem dX6_keepBest_37 : decode cX6_keepBest 37 = .ok (.invokevirtual 278, 3) := by decide +kernel
theorem dX6_keepBest_40 : decode cX6_keepBest 40 = .ok (.aload_n 0, 1) := by decide +kernel
theorem dX6_keepBest_41 : decode cX6_keepBest 41 = .ok (.getfield 35, 3) := by decide +kernel
theorem dX6_keepBest_44 : decode cX6_keepBest 44 = .ok (.aload_n 0, 1) := by decide +kernel
theorem dX6_keepBest_45 : decode cX6_keepBest 45 = .ok (.getfield 10, 3) := by decide +kernel
theorem dX6_keepBest_48 : decode cX6_keepBest 48 = .ok (.aload_n 0, 1) := by decide +kernel
theorem dX6_keepBest_49 : decode cX6_keepBest 49 = .ok (.getfield 28, 3) := by decide +kernel
theorem dX6_keepBest_52 : decode cX6_keepBest 52 = .ok (.iconst 0, 1) := by decide +kernel
theorem dX6_keepBest_53 : decode cX6_keepBest 53 = .ok (.iconst 3, 1) := by decide +kernel
theorem dX6_keepBest_54 : decode cX6_keepBest 54 = .ok (.invokevirtual 112, 3) := by decide +kernel
theorem dX6_keepBest_57 : decode cX6_keepBest 57 = .ok (.invokevirtual 282, 3) := by decide +kernel
theorem dX6_keepBest_60 : decode cX6_keepBest 60 = .ok (.aload_n 0, 1) := by decide +kernel
theorem dX6_keepBest_61 : decode cX6_keepBest 61 = .ok (.getfield 42, 3) := by decide +kernel
theorem dX6_keepBest_64 : decode cX6_keepBest 64 = .ok (.aload_n 0, 1) := by decide +kernel
theorem dX6_keepBest_65 : decode cX6_keepBest 65 = .ok (.getfield 10, 3) := by decide +kernel
theorem dX6_keepBest_68 : decode cX6_keepBest 68 = .ok (.aload_n 0, 1) := by decide +kernel
theorem dX6_keepBest_69 : decode cX6_keepBest 69 = .ok (.getfield 35, 3) := by decide +kernel
theorem dX6_keepBest_72 : decode cX6_keepBest 72 = .ok (.getfield 285, 3) := by decide +kernel
theorem dX6_keepBest_75 : decode cX6_keepBest 75 = .ok (.invokevirtual 287, 3) := by decide +kernel
theorem dX6_keepBest_78 : decode cX6_keepBest 78 = .ok (.return_, 1) := by decide +kernel
theorem dX6_sheetOf_0 : decode cX6_sheetOf 0 = .ok (.iload_n 1, 1) := by decide +kernel
theorem dX6_sheetOf_1 : decode cX6_sheetOf 1 = .ok (.ifCond .lt 12, 3) := by decide +kernel
theorem dX6_sheetOf_4 : decode cX6_sheetOf 4 = .ok (.iload_n 1, 1) := by decide +kernel
theorem dX6_sheetOf_5 : decode cX6_sheetOf 5 = .ok (.aload_n 0, 1) := by decide +kernel
theorem dX6_sheetOf_6 : decode cX6_sheetOf 6 = .ok (.getfield 48, 3) := by decide +kernel
theorem dX6_sheetOf_9 : decode cX6_sheetOf 9 = .ok (.arraylength, 1) := by decide +kernel
theorem dX6_sheetOf_10 : decode cX6_sheetOf 10 = .ok (.if_icmp .lt 7, 3) := by decide +kernel
theorem dX6_sheetOf_13 : decode cX6_sheetOf 13 = .ok (.aconst_null, 1) := by decide +kernel
theorem dX6_sheetOf_14 : decode cX6_sheetOf 14 = .ok (.goto 9, 3) := by decide +kernel
theorem dX6_sheetOf_17 : decode cX6_sheetOf 17 = .ok (.aload_n 0, 1) := by decide +kernel
theorem dX6_sheetOf_18 : decode cX6_sheetOf 18 = .ok (.getfield 48, 3) := by decide +kernel
theorem dX6_sheetOf_21 : decode cX6_sheetOf 21 = .ok (.iload_n 1, 1) := by decide +kernel
theorem dX6_sheetOf_22 : decode cX6_sheetOf 22 = .ok (.aaload, 1) := by decide +kernel
theorem dX6_sheetOf_23 : decode cX6_sheetOf 23 = .ok (.areturn, 1) := by decide +kernel
theorem dX6_isByte_0 : decode cX6_isByte 0 = .ok (.iload_n 0, 1) := by decide +kernel
theorem dX6_isByte_1 : decode cX6_isByte 1 = .ok (.ifCond .lt 14, 3) := by decide +kernel
theorem dX6_isByte_4 : decode cX6_isByte 4 = .ok (.iload_n 0, 1) := by decide +kernel
theorem dX6_isByte_5 : decode cX6_isByte 5 = .ok (.sipush 255, 3) := by decide +kernel
theorem dX6_isByte_8 : decode cX6_isByte 8 = .ok (.if_icmp .gt 7, 3) := by decide +kernel
theorem dX6_isByte_11 : decode cX6_isByte 11 = .ok (.iconst 1, 1) := by decide +kernel
theorem dX6_isByte_12 : decode cX6_isByte 12 = .ok (.goto 4, 3) := by decide +kernel
theorem dX6_isByte_15 : decode cX6_isByte 15 = .ok (.iconst 0, 1) := by decide +kernel
theorem dX6_isByte_16 : decode cX6_isByte 16 = .ok (.ireturn, 1) := by decide +kernel
theorem dX6_isForm_0 : decode cX6_isForm 0 = .ok (.iload_n 0, 1) := by decide +kernel
theorem dX6_isForm_1 : decode cX6_isForm 1 = .ok (.ifCond .lt 12, 3) := by decide +kernel
theorem dX6_isForm_4 : decode cX6_isForm 4 = .ok (.iload_n 0, 1) := by decide +kernel
theorem dX6_isForm_5 : decode cX6_isForm 5 = .ok (.iconst 3, 1) := by decide +kernel
theorem dX6_isForm_6 : decode cX6_isForm 6 = .ok (.if_icmp .ge 7, 3) := by decide +kernel
theorem dX6_isForm_9 : decode cX6_isForm 9 = .ok (.iconst 1, 1) := by decide +kernel
theorem dX6_isForm_10 : decode cX6_isForm 10 = .ok (.goto 4, 3) := by decide +kernel
theorem dX6_isForm_13 : decode cX6_isForm 13 = .ok (.iconst 0, 1) := by decide +kernel
theorem dX6_isForm_14 : decode cX6_isForm 14 = .ok (.ireturn, 1) := by decide +kernel
theorem dX6_wrongItem_0 : decode cX6_wrongItem 0 = .ok (.aload_n 0, 1) := by decide +kernel
theorem dX6_wrongItem_1 : decode cX6_wrongItem 1 = .ok (.invokevirtual 80, 3) := by decide +kernel
theorem dX6_wrongItem_4 : decode cX6_wrongItem 4 = .ok (.ifCond .eq 5, 3) := by decide +kernel
theorem dX6_wrongItem_7 : decode cX6_wrongItem 7 = .ok (.iconst 1, 1) := by decide +kernel
theorem dX6_wrongItem_8 : decode cX6_wrongItem 8 = .ok (.ireturn, 1) := by decide +kernel
theorem dX6_wrongItem_9 : decode cX6_wrongItem 9 = .ok (.aload_n 0, 1) := by decide +kernel
theorem dX6_wrongItem_10 : decode cX6_wrongItem 10 = .ok (.getfield 172, 3) := by decide +kernel
theorem dX6_wrongItem_13 : decode cX6_wrongItem 13 = .ok (.iload_n 1, 1) := by decide +kernel
theorem dX6_wrongItem_14 : decode cX6_wrongItem 14 = .ok (.if_icmp .eq 5, 3) := by decide +kernel
theorem dX6_wrongItem_17 : decode cX6_wrongItem 17 = .ok (.iconst 3, 1) := by decide +kernel
theorem dX6_wrongItem_18 : decode cX6_wrongItem 18 = .ok (.ireturn, 1) := by decide +kernel
theorem dX6_wrongItem_19 : decode cX6_wrongItem 19 = .ok (.aload_n 0, 1) := by decide +kernel
theorem dX6_wrongItem_20 : decode cX6_wrongItem 20 = .ok (.iload_n 2, 1) := by decide +kernel
theorem dX6_wrongItem_21 : decode cX6_wrongItem 21 = .ok (.iconst 1, 1) := by decide +kernel
theorem dX6_wrongItem_22 : decode cX6_wrongItem 22 = .ok (.invokevirtual 175, 3) := by decide +kernel
theorem dX6_wrongItem_25 : decode cX6_wrongItem 25 = .ok (.ifCond .eq 7, 3) := by decide +kernel
theorem dX6_wrongItem_28 : decode cX6_wrongItem 28 = .ok (.iconst 0, 1) := by decide +kernel
theorem dX6_wrongItem_29 : decode cX6_wrongItem 29 = .ok (.goto 4, 3) := by decide +kernel
theorem dX6_wrongItem_32 : decode cX6_wrongItem 32 = .ok (.iconst 2, 1) := by decide +kernel
theorem dX6_wrongItem_33 : decode cX6_wrongItem 33 = .ok (.ireturn, 1) := by decide +kernel
theorem dX6_found_0 : decode cX6_found 0 = .ok (.aload_n 0, 1) := by decide +kernel
theorem dX6_found_1 : decode cX6_found 1 = .ok (.iload_n 1, 1) := by decide +kernel
theorem dX6_found_2 : decode cX6_found 2 = .ok (.putfield 205, 3) := by decide +kernel
theorem dX6_found_5 : decode cX6_found 5 = .ok (.bipush (-10), 2) := by decide +kernel
theorem dX6_found_7 : decode cX6_found 7 = .ok (.iload_n 1, 1) := by decide +kernel
theorem dX6_found_8 : decode cX6_found 8 = .ok (.isub, 1) := by decide +kernel
theorem dX6_found_9 : decode cX6_found 9 = .ok (.ireturn, 1) := by decide +kernel
end
section
theorem dX7_init_0 : decode cX7_init 0 = .ok (.aload_n 0, 1) := by decide +kernel
theorem dX7_init_1 : decode cX7_init 1 = .ok (.invokespecial 1, 3) := by decide +kernel
theorem dX7_init_4 : decode cX7_init 4 = .ok (.aload_n 0, 1) := by decide +kernel
theorem dX7_init_5 : decode cX7_init 5 = .ok (.bipush 40, 2) := by decide +kernel
theorem dX7_init_7 : decode cX7_init 7 = .ok (.newarray .int, 2) := by decide +kernel
theorem dX7_init_9 : decode cX7_init 9 = .ok (.putfield 7, 3) := by decide +kernel
theorem dX7_init_12 : decode cX7_init 12 = .ok (.aload_n 0, 1) := by decide +kernel
theorem dX7_init_13 : decode cX7_init 13 = .ok (.bipush 20, 2) := by decide +kernel
theorem dX7_init_15 : decode cX7_init 15 = .ok (.putfield 13, 3) := by decide +kernel
theorem dX7_init_18 : decode cX7_init 18 = .ok (.aload_n 0, 1) := by decide +kernel
theorem dX7_init_19 : decode cX7_init 19 = .ok (.bipush 40, 2) := by decide +kernel
theorem dX7_init_21 : decode cX7_init 21 = .ok (.newarray .int, 2) := by decide +kernel
theorem dX7_init_23 : decode cX7_init 23 = .ok (.putfield 17, 3) := by decide +kernel
theorem dX7_init_26 : decode cX7_init 26 = .ok (.aload_n 0, 1) := by decide +kernel
theorem dX7_init_27 : decode cX7_init 27 = .ok (.bipush 40, 2) := by decide +kernel
theorem dX7_init_29 : decode cX7_init 29 = .ok (.newarray .int, 2) := by decide +kernel
theorem dX7_init_31 : decode cX7_init 31 = .ok (.putfield 20, 3) := by decide +kernel
theorem dX7_init_34 : decode cX7_init 34 = .ok (.aload_n 0, 1) := by decide +kernel
theorem dX7_init_35 : decode cX7_init 35 = .ok (.bipush 40, 2) := by decide +kernel
theorem dX7_init_37 : decode cX7_init 37 = .ok (.newarray .int, 2) := by decide +kernel
theorem dX7_init_39 : decode cX7_init 39 = .ok (.putfield 23, 3) := by decide +kernel
theorem dX7_init_42 : decode cX7_init 42 = .ok (.aload_n 0, 1) := by decide +kernel
theorem dX7_init_43 : decode cX7_init 43 = .ok (.bipush 40, 2) := by decide +kernel
theorem dX7_init_45 : decode cX7_init 45 = .ok (.newarray .int, 2) := by decide +kernel
theorem dX7_init_47 : decode cX7_init 47 = .ok (.putfield 26, 3) := by decide +kernel
theorem dX7_init_50 : decode cX7_init 50 = .ok (.aload_n 0, 1) := by decide +kernel
theorem dX7_init_51 : decode cX7_init 51 = .ok (.bipush 40, 2) := by decide +kernel
theorem dX7_init_53 : decode cX7_init 53 = .ok (.newarray .int, 2) := by decide +kernel
theorem dX7_init_55 : decode cX7_init 55 = .ok (.putfield 29, 3) := by decide +kernel
theorem dX7_init_58 : decode cX7_init 58 = .ok (.aload_n 0, 1) := by decide +kernel
theorem dX7_init_59 : decode cX7_init 59 = .ok (.bipush 40, 2) := by decide +kernel
theorem dX7_init_61 : decode cX7_init 61 = .ok (.newarray .int, 2) := by decide +kernel
theorem dX7_init_63 : decode cX7_init 63 = .ok (.putfield 32, 3) := by decide +kernel
theorem dX7_init_66 : decode cX7_init 66 = .ok (.aload_n 0, 1) := by decide +kernel
theorem dX7_init_67 : decode cX7_init 67 = .ok (.bipush 40, 2) := by decide +kernel
theorem dX7_init_69 : decode cX7_init 69 = .ok (.newarray .int, 2) := by decide +kernel
theorem dX7_init_71 : decode cX7_init 71 = .ok (.putfield 35, 3) := by decide +kernel
theorem dX7_init_74 : decode cX7_init 74 = .ok (.aload_n 0, 1) := by decide +kernel
theorem dX7_init_75 : decode cX7_init 75 = .ok (.sipush 2560, 3) := by decide +kernel
theorem dX7_init_78 : decode cX7_init 78 = .ok (.newarray .int, 2) := by decide +kernel
theorem dX7_init_80 : decode cX7_init 80 = .ok (.putfield 38, 3) := by decide +kernel
theorem dX7_init_83 : decode cX7_init 83 = .ok (.aload_n 0, 1) := by decide +kernel
theorem dX7_init_84 : decode cX7_init 84 = .ok (.bipush 40, 2) := by decide +kernel
theorem dX7_init_86 : decode cX7_init 86 = .ok (.newarray .int, 2) := by decide +kernel
theorem dX7_init_88 : decode cX7_init 88 = .ok (.putfield 41, 3) := by decide +kernel
theorem dX7_init_91 : decode cX7_init 91 = .ok (.aload_n 0, 1) := by decide +kernel
theorem dX7_init_92 : decode cX7_init 92 = .ok (.bipush 40, 2) := by decide +kernel
theorem dX7_init_94 : decode cX7_init 94 = .ok (.newarray .int, 2) := by decide +kernel
theorem dX7_init_96 : decode cX7_init 96 = .ok (.putfield 44, 3) := by decide +kernel
theorem dX7_init_99 : decode cX7_init 99 = .ok (.aload_n 0, 1) := by decide +kernel
theorem dX7_init_100 : decode cX7_init 100 = .ok (.bipush 64, 2) := by decide +kernel
theorem dX7_init_102 : decode cX7_init 102 = .ok (.newarray .int, 2) := by decide +kernel
theorem dX7_init_104 : decode cX7_init 104 = .ok (.putfield 47, 3) := by decide +kernel
theorem dX7_init_107 : decode cX7_init 107 = .ok (.aload_n 0, 1) := by decide +kernel
theorem dX7_init_108 : decode cX7_init 108 = .ok (.bipush 40, 2) := by decide +kernel
theorem dX7_init_110 : decode cX7_init 110 = .ok (.newarray .int, 2) := by decide +kernel
theorem dX7_init_112 : decode cX7_init 112 = .ok (.putfield 50, 3) := by decide +kernel
theorem dX7_init_115 : decode cX7_init 115 = .ok (.aload_n 0, 1) := by decide +kernel
theorem dX7_init_116 : decode cX7_init 116 = .ok (.bipush 40, 2) := by decide +kernel
theorem dX7_init_118 : decode cX7_init 118 = .ok (.newarray .int, 2) := by decide +kernel
theorem dX7_init_120 : decode cX7_init 120 = .ok (.putfield 53, 3) := by decide +kernel
theorem dX7_init_123 : decode cX7_init 123 = .ok (.aload_n 0, 1) := by decide +kernel
theorem dX7_init_124 : decode cX7_init 124 = .ok (.bipush 40, 2) := by decide +kernel
theorem dX7_init_126 : decode cX7_init 126 = .ok (.newarray .int, 2) := by decide +kernel
theorem dX7_init_128 : decode cX7_init 128 = .ok (.putfield 56, 3) := by decide +kernel
theorem dX7_init_131 : decode cX7_init 131 = .ok (.aload_n 0, 1) := by decide +kernel
theorem dX7_init_132 : decode cX7_init 132 = .ok (.iconst 4, 1) := by decide +kernel
theorem dX7_init_133 : decode cX7_init 133 = .ok (.newarray .boolean, 2) := by decide +kernel
theorem dX7_init_135 : decode cX7_init 135 = .ok (.putfield 59, 3) := by decide +kernel
theorem dX7_init_138 : decode cX7_init 138 = .ok (.aload_n 0, 1) := by decide +kernel
theorem dX7_init_139 : decode cX7_init 139 = .ok (.iconst 4, 1) := by decide +kernel
theorem dX7_init_140 : decode cX7_init 140 = .ok (.newarray .int, 2) := by decide +kernel
theorem dX7_init_142 : decode cX7_init 142 = .ok (.putfield 63, 3) := by decide +kernel
theorem dX7_init_145 : decode cX7_init 145 = .ok (.aload_n 0, 1) := by decide +kernel
theorem dX7_init_146 : decode cX7_init 146 = .ok (.iconst 4, 1) := by decide +kernel
theorem dX7_init_147 : decode cX7_init 147 = .ok (.newarray .int, 2) := by decide +kernel
theorem dX7_init_149 : decode cX7_init 149 = .ok (.putfield 66, 3) := by decide +kernel
theorem dX7_init_152 : decode cX7_init 152 = .ok (.aload_n 0, 1) := by decide +kernel
theorem dX7_init_153 : decode cX7_init 153 = .ok (.sipush 240, 3) := by decide +kernel
theorem dX7_init_156 : decode cX7_init 156 = .ok (.newarray .int, 2) := by decide +kernel
theorem dX7_init_158 : decode cX7_init 158 = .ok (.putfield 69, 3) := by decide +kernel
theorem dX7_init_161 : decode cX7_init 161 = .ok (.aload_n 0, 1) := by decide +kernel
theorem dX7_init_162 : decode cX7_init 162 = .ok (.bipush 60, 2) := by decide +kernel
theorem dX7_init_164 : decode cX7_init 164 = .ok (.newarray .int, 2) := by decide +kernel
theorem dX7_init_166 : decode cX7_init 166 = .ok (.putfield 72, 3) := by decide +kernel
theorem dX7_init_169 : decode cX7_init 169 = .ok (.return_, 1) := by decide +kernel
theorem dX7_in_0 : decode cX7_in 0 = .ok (.iload_n 0, 1) := by decide +kernel
theorem dX7_in_1 : decode cX7_in 1 = .ok (.iload_n 1, 1) := by decide +kernel
theorem dX7_in_2 : decode cX7_in 2 = .ok (.if_icmp .lt 12, 3) := by decide +kernel
theorem dX7_in_5 : decode cX7_in 5 = .ok (.iload_n 0, 1) := by decide +kernel
theorem dX7_in_6 : decode cX7_in 6 = .ok (.iload_n 2, 1) := by decide +kernel
theorem dX7_in_7 : decode cX7_in 7 = .ok (.if_icmp .gt 7, 3) := by decide +kernel
theorem dX7_in_10 : decode cX7_in 10 = .ok (.iconst 1, 1) := by decide +kernel
theorem dX7_in_11 : decode cX7_in 11 = .ok (.goto 4, 3) := by decide +kernel
theorem dX7_in_14 : decode cX7_in 14 = .ok (.iconst 0, 1) := by decide +kernel
theorem dX7_in_15 : decode cX7_in 15 = .ok (.ireturn, 1) := by decide +kernel
theorem dX7_isIn_0 : decode cX7_isIn 0 = .ok (.iload_n 0, 1) := by decide +kernel
theorem dX7_isIn_1 : decode cX7_isIn 1 = .ok (.iload_n 1, 1) := by decide +kernel
theorem dX7_isIn_2 : decode cX7_isIn 2 = .ok (.ishr, 1) := by decide +kernel
theorem dX7_isIn_3 : decode cX7_isIn 3 = .ok (.iconst 1, 1) := by decide +kernel
theorem dX7_isIn_4 : decode cX7_isIn 4 = .ok (.iand, 1) := by decide +kernel
theorem dX7_isIn_5 : decode cX7_isIn 5 = .ok (.iconst 1, 1) := by decide +kernel
theorem dX7_isIn_6 : decode cX7_isIn 6 = .ok (.if_icmp .ne 7, 3) := by decide +kernel
theorem dX7_isIn_9 : decode cX7_isIn 9 = .ok (.iconst 1, 1) := by decide +kernel
theorem dX7_isIn_10 : decode cX7_isIn 10 = .ok (.goto 4, 3) := by decide +kernel
theorem dX7_isIn_13 : decode cX7_isIn 13 = .ok (.iconst 0, 1) := by decide +kernel
theorem dX7_isIn_14 : decode cX7_isIn 14 = .ok (.ireturn, 1) := by decide +kernel
theorem dX7_type_0 : decode cX7_type 0 = .ok (.iload_n 1, 1) := by decide +kernel
theorem dX7_type_1 : decode cX7_type 1 = .ok (.iconst 0, 1) := by decide +kernel
theorem dX7_type_2 : decode cX7_type 2 = .ok (.sipush 255, 3) := by decide +kernel
theorem dX7_type_5 : decode cX7_type 5 = .ok (.invokestatic 75, 3) := by decide +kernel
theorem dX7_type_8 : decode cX7_type 8 = .ok (.ifCond .ne 6, 3) := by decide +kernel
theorem dX7_type_11 : decode cX7_type 11 = .ok (.bipush (-2), 2) := by decide +kernel
theorem dX7_type_13 : decode cX7_type 13 = .ok (.ireturn, 1) := by decide +kernel
theorem dX7_type_14 : decode cX7_type 14 = .ok (.aload_n 0, 1) := by decide +kernel
theorem dX7_type_15 : decode cX7_type 15 = .ok (.getfield 79, 3) := by decide +kernel
theorem dX7_type_18 : decode cX7_type 18 = .ok (.bipush 40, 2) := by decide +kernel
theorem dX7_type_20 : decode cX7_type 20 = .ok (.if_icmp .ne 6, 3) := by decide +kernel
theorem dX7_type_23 : decode cX7_type 23 = .ok (.bipush (-4), 2) := by decide +kernel
theorem dX7_type_25 : decode cX7_type 25 = .ok (.ireturn, 1) := by decide +kernel
theorem dX7_type_26 : decode cX7_type 26 = .ok (.aload_n 0, 1) := by decide +kernel
theorem dX7_type_27 : decode cX7_type 27 = .ok (.getfield 7, 3) := by decide +kernel
theorem dX7_type_30 : decode cX7_type 30 = .ok (.aload_n 0, 1) := by decide +kernel
theorem dX7_type_31 : decode cX7_type 31 = .ok (.getfield 79, 3) := by decide +kernel
theorem dX7_type_34 : decode cX7_type 34 = .ok (.iload_n 1, 1) := by decide +kernel
theorem dX7_type_35 : decode cX7_type 35 = .ok (.iastore, 1) := by decide +kernel
theorem dX7_type_36 : decode cX7_type 36 = .ok (.aload_n 0, 1) := by decide +kernel
theorem dX7_type_37 : decode cX7_type 37 = .ok (.dup, 1) := by decide +kernel
theorem dX7_type_38 : decode cX7_type 38 = .ok (.getfield 79, 3) := by decide +kernel
theorem dX7_type_41 : decode cX7_type 41 = .ok (.iconst 1, 1) := by decide +kernel
theorem dX7_type_42 : decode cX7_type 42 = .ok (.iadd, 1) := by decide +kernel
theorem dX7_type_43 : decode cX7_type 43 = .ok (.putfield 79, 3) := by decide +kernel
theorem dX7_type_46 : decode cX7_type 46 = .ok (.aload_n 0, 1) := by decide +kernel
theorem dX7_type_47 : decode cX7_type 47 = .ok (.getfield 79, 3) := by decide +kernel
theorem dX7_type_50 : decode cX7_type 50 = .ok (.ireturn, 1) := by decide +kernel
theorem dX7_wipe_0 : decode cX7_wipe 0 = .ok (.aload_n 0, 1) := by decide +kernel
theorem dX7_wipe_1 : decode cX7_wipe 1 = .ok (.getfield 79, 3) := by decide +kernel
theorem dX7_wipe_4 : decode cX7_wipe 4 = .ok (.istore_n 1, 1) := by decide +kernel
theorem dX7_wipe_5 : decode cX7_wipe 5 = .ok (.aload_n 0, 1) := by decide +kernel
theorem dX7_wipe_6 : decode cX7_wipe 6 = .ok (.iconst 0, 1) := by decide +kernel
theorem dX7_wipe_7 : decode cX7_wipe 7 = .ok (.putfield 79, 3) := by decide +kernel
theorem dX7_wipe_10 : decode cX7_wipe 10 = .ok (.iload_n 1, 1) := by decide +kernel
theorem dX7_wipe_11 : decode cX7_wipe 11 = .ok (.ireturn, 1) := by decide +kernel
theorem dX7_undo_0 : decode cX7_undo 0 = .ok (.aload_n 0, 1) := by decide +kernel
theorem dX7_undo_1 : decode cX7_undo 1 = .ok (.getfield 79, 3) := by decide +kernel
theorem dX7_undo_4 : decode cX7_undo 4 = .ok (.ifCond .ne 6, 3) := by decide +kernel
theorem dX7_undo_7 : decode cX7_undo 7 = .ok (.bipush (-3), 2) := by decide +kernel
theorem dX7_undo_9 : decode cX7_undo 9 = .ok (.ireturn, 1) := by decide +kernel
theorem dX7_undo_10 : decode cX7_undo 10 = .ok (.aload_n 0, 1) := by decide +kernel
theorem dX7_undo_11 : decode cX7_undo 11 = .ok (.dup, 1) := by decide +kernel
theorem dX7_undo_12 : decode cX7_undo 12 = .ok (.getfield 79, 3) := by decide +kernel
theorem dX7_undo_15 : decode cX7_undo 15 = .ok (.iconst 1, 1) := by decide +kernel
theorem dX7_undo_16 : decode cX7_undo 16 = .ok (.isub, 1) := by decide +kernel
theorem dX7_undo_17 : decode cX7_undo 17 = .ok (.putfield 79, 3) := by decide +kernel
theorem dX7_undo_20 : decode cX7_undo 20 = .ok (.aload_n 0, 1) := by decide +kernel
theorem dX7_undo_21 : decode cX7_undo 21 = .ok (.getfield 79, 3) := by decide +kernel
theorem dX7_undo_24 : decode cX7_undo 24 = .ok (.ireturn, 1) := by decide +kernel
theorem dX7_width_0 : decode cX7_width 0 = .ok (.iload_n 1, 1) := by decide +kernel
theorem dX7_width_1 : decode cX7_width 1 = .ok (.iconst 1, 1) := by decide +kernel
theorem dX7_width_2 : decode cX7_width 2 = .ok (.bipush 99, 2) := by decide +kernel
theorem dX7_width_4 : decode cX7_width 4 = .ok (.invokestatic 75, 3) := by decide +kernel
theorem dX7_width_7 : decode cX7_width 7 = .ok (.ifCond .ne 6, 3) := by decide +kernel
theorem dX7_width_10 : decode cX7_width 10 = .ok (.bipush (-2), 2) := by decide +kernel
theorem dX7_width_12 : decode cX7_width 12 = .ok (.ireturn, 1) := by decide +kernel
theorem dX7_width_13 : decode cX7_width 13 = .ok (.aload_n 0, 1) := by decide +kernel
theorem dX7_width_14 : decode cX7_width 14 = .ok (.getfield 13, 3) := by decide +kernel
theorem dX7_width_17 : decode cX7_width 17 = .ok (.istore_n 2, 1) := by decide +kernel
theorem dX7_width_18 : decode cX7_width 18 = .ok (.aload_n 0, 1) := by decide +kernel
theorem dX7_width_19 : decode cX7_width 19 = .ok (.iload_n 1, 1) := by decide +kernel
theorem dX7_width_20 : decode cX7_width 20 = .ok (.putfield 13, 3) := by decide +kernel
theorem dX7_width_23 : decode cX7_width 23 = .ok (.iload_n 2, 1) := by decide +kernel
theorem dX7_width_24 : decode cX7_width 24 = .ok (.ireturn, 1) := by decide +kernel
theorem dX7_read_0 : decode cX7_read 0 = .ok (.iload_n 1, 1) := by decide +kernel
theorem dX7_read_1 : decode cX7_read 1 = .ok (.invokestatic 82, 3) := by decide +kernel
theorem dX7_read_4 : decode cX7_read 4 = .ok (.ifCond .ne 6, 3) := by decide +kernel
theorem dX7_read_7 : decode cX7_read 7 = .ok (.bipush (-2), 2) := by decide +kernel
theorem dX7_read_9 : decode cX7_read 9 = .ok (.ireturn, 1) := by decide +kernel
theorem dX7_read_10 : decode cX7_read 10 = .ok (.aload_n 0, 1) := by decide +kernel
theorem dX7_read_11 : decode cX7_read 11 = .ok (.getfield 59, 3) := by decide +kernel
theorem dX7_read_14 : decode cX7_read 14 = .ok (.iload_n 1, 1) := by decide +kernel
theorem dX7_read_15 : decode cX7_read 15 = .ok (.baload, 1) := by decide +kernel
theorem dX7_read_16 : decode cX7_read 16 = .ok (.ifCond .ne 9, 3) := by decide +kernel
theorem dX7_read_19 : decode cX7_read 19 = .ok (.aload_n 0, 1) := by decide +kernel
theorem dX7_read_20 : decode cX7_read 20 = .ok (.iconst 1, 1) := by decide +kernel
theorem dX7_read_21 : decode cX7_read 21 = .ok (.invokevirtual 86, 3) := by decide +kernel
theorem dX7_read_24 : decode cX7_read 24 = .ok (.ireturn, 1) := by decide +kernel
theorem dX7_read_25 : decode cX7_read 25 = .ok (.iconst 0, 1) := by decide +kernel
theorem dX7_read_26 : decode cX7_read 26 = .ok (.istore_n 2, 1) := by decide +kernel
theorem dX7_read_27 : decode cX7_read 27 = .ok (.iload_n 2, 1) := by decide +kernel
theorem dX7_read_28 : decode cX7_read 28 = .ok (.aload_n 0, 1) := by decide +kernel
theorem dX7_read_29 : decode cX7_read 29 = .ok (.getfield 66, 3) := by decide +kernel
theorem dX7_read_32 : decode cX7_read 32 = .ok (.iload_n 1, 1) := by decide +kernel
theorem dX7_read_33 : decode cX7_read 33 = .ok (.iaload, 1) := by decide +kernel
theorem dX7_read_34 : decode cX7_read 34 = .ok (.if_icmp .ge 27, 3) := by decide +kernel
theorem dX7_read_37 : decode cX7_read 37 = .ok (.aload_n 0, 1) := by decide +kernel
theorem dX7_read_38 : decode cX7_read 38 = .ok (.aload_n 0, 1) := by decide +kernel
theorem dX7_read_39 : decode cX7_read 39 = .ok (.getfield 69, 3) := by decide +kernel
theorem dX7_read_42 : decode cX7_read 42 = .ok (.bipush 60, 2) := by decide +kernel
theorem dX7_read_44 : decode cX7_read 44 = .ok (.iload_n 1, 1) := by decide +kernel
theorem dX7_read_45 : decode cX7_read 45 = .ok (.imul, 1) := by decide +kernel
theorem dX7_read_46 : decode cX7_read 46 = .ok (.iload_n 2, 1) := by decide +kernel
theorem dX7_read_47 : decode cX7_read 47 = .ok (.iadd, 1) := by decide +kernel
theorem dX7_read_48 : decode cX7_read 48 = .ok (.iaload, 1) := by decide +kernel
theorem dX7_read_49 : decode cX7_read 49 = .ok (.invokevirtual 90, 3) := by decide +kernel
theorem dX7_read_52 : decode cX7_read 52 = .ok (.ifCond .le 9, 3) := by decide +kernel
theorem dX7_read_55 : decode cX7_read 55 = .ok (.iinc 2 1, 3) := by decide +kernel
theorem dX7_read_58 : decode cX7_read 58 = .ok (.goto (-31), 3) := by decide +kernel
theorem dX7_read_61 : decode cX7_read 61 = .ok (.iload_n 2, 1) := by decide +kernel
theorem dX7_read_62 : decode cX7_read 62 = .ok (.ireturn, 1) := by decide +kernel
theorem dX7_kindOf_0 : decode cX7_kindOf 0 = .ok (.iload_n 0, 1) := by decide +kernel
theorem dX7_kindOf_1 : decode cX7_kindOf 1 = .ok (.bipush 97, 2) := by decide +kernel
theorem dX7_kindOf_3 : decode cX7_kindOf 3 = .ok (.bipush 105, 2) := by decide +kernel
theorem dX7_kindOf_5 : decode cX7_kindOf 5 = .ok (.invokestatic 75, 3) := by decide +kernel
theorem dX7_kindOf_8 : decode cX7_kindOf 8 = .ok (.ifCond .eq 7, 3) := by decide +kernel
theorem dX7_kindOf_11 : decode cX7_kindOf 11 = .ok (.iconst 0, 1) := by decide +kernel
theorem dX7_kindOf_12 : decode cX7_kindOf 12 = .ok (.goto 54, 3) := by decide +kernel
theorem dX7_kindOf_15 : decode cX7_kindOf 15 = .ok (.iload_n 0, 1) := by decide +kernel
theorem dX7_kindOf_16 : decode cX7_kindOf 16 = .ok (.bipush 72, 2) := by decide +kernel
theorem dX7_kindOf_18 : decode cX7_kindOf 18 = .ok (.if_icmp .ne 7, 3) := by decide +kernel
theorem dX7_kindOf_21 : decode cX7_kindOf 21 = .ok (.iconst 1, 1) := by decide +kernel
theorem dX7_kindOf_22 : decode cX7_kindOf 22 = .ok (.goto 44, 3) := by decide +kernel
theorem dX7_kindOf_25 : decode cX7_kindOf 25 = .ok (.iload_n 0, 1) := by decide +kernel
theorem dX7_kindOf_26 : decode cX7_kindOf 26 = .ok (.bipush 86, 2) := by decide +kernel
theorem dX7_kindOf_28 : decode cX7_kindOf 28 = .ok (.if_icmp .ne 7, 3) := by decide +kernel
theorem dX7_kindOf_31 : decode cX7_kindOf 31 = .ok (.iconst 2, 1) := by decide +kernel
theorem dX7_kindOf_32 : decode cX7_kindOf 32 = .ok (.goto 34, 3) := by decide +kernel
theorem dX7_kindOf_35 : decode cX7_kindOf 35 = .ok (.iload_n 0, 1) := by decide +kernel
theorem dX7_kindOf_36 : decode cX7_kindOf 36 = .ok (.bipush 67, 2) := by decide +kernel
theorem dX7_kindOf_38 : decode cX7_kindOf 38 = .ok (.if_icmp .ne 7, 3) := by decide +kernel
theorem dX7_kindOf_41 : decode cX7_kindOf 41 = .ok (.iconst 3, 1) := by decide +kernel
theorem dX7_kindOf_42 : decode cX7_kindOf 42 = .ok (.goto 24, 3) := by decide +kernel
theorem dX7_kindOf_45 : decode cX7_kindOf 45 = .ok (.iload_n 0, 1) := by decide +kernel
theorem dX7_kindOf_46 : decode cX7_kindOf 46 = .ok (.bipush 78, 2) := by decide +kernel
theorem dX7_kindOf_48 : decode cX7_kindOf 48 = .ok (.if_icmp .ne 7, 3) := by decide +kernel
theorem dX7_kindOf_51 : decode cX7_kindOf 51 = .ok (.iconst 4, 1) := by decide +kernel
theorem dX7_kindOf_52 : decode cX7_kindOf 52 = .ok (.goto 14, 3) := by decide +kernel
theorem dX7_kindOf_55 : decode cX7_kindOf 55 = .ok (.iload_n 0, 1) := by decide +kernel
theorem dX7_kindOf_56 : decode cX7_kindOf 56 = .ok (.bipush 70, 2) := by decide +kernel
theorem dX7_kindOf_58 : decode cX7_kindOf 58 = .ok (.if_icmp .ne 7, 3) := by decide +kernel
theorem dX7_kindOf_61 : decode cX7_kindOf 61 = .ok (.iconst 5, 1) := by decide +kernel
theorem dX7_kindOf_62 : decode cX7_kindOf 62 = .ok (.goto 4, 3) := by decide +kernel
theorem dX7_kindOf_65 : decode cX7_kindOf 65 = .ok (.iconst (-1), 1) := by decide +kernel
theorem dX7_kindOf_66 : decode cX7_kindOf 66 = .ok (.ireturn, 1) := by decide +kernel
theorem dX7_isTwofold_0 : decode cX7_isTwofold 0 = .ok (.iload_n 0, 1) := by decide +kernel
theorem dX7_isTwofold_1 : decode cX7_isTwofold 1 = .ok (.iconst 1, 1) := by decide +kernel
theorem dX7_isTwofold_2 : decode cX7_isTwofold 2 = .ok (.iconst 3, 1) := by decide +kernel
theorem dX7_isTwofold_3 : decode cX7_isTwofold 3 = .ok (.invokestatic 75, 3) := by decide +kernel
theorem dX7_isTwofold_6 : decode cX7_isTwofold 6 = .ok (.ireturn, 1) := by decide +kernel
theorem dX7_readsText_0 : decode cX7_readsText 0 = .ok (.aload_n 0, 1) := by decide +kernel
theorem dX7_readsText_1 : decode cX7_readsText 1 = .ok (.iconst 0, 1) := by decide +kernel
theorem dX7_readsText_2 : decode cX7_readsText 2 = .ok (.putfield 93, 3) := by decide +kernel
theorem dX7_readsText_5 : decode cX7_readsText 5 = .ok (.aload_n 0, 1) := by decide +kernel
theorem dX7_readsText_6 : decode cX7_readsText 6 = .ok (.iconst 0, 1) := by decide +kernel
theorem dX7_readsText_7 : decode cX7_readsText 7 = .ok (.putfield 96, 3) := by decide +kernel
theorem dX7_readsText_10 : decode cX7_readsText 10 = .ok (.aload_n 0, 1) := by decide +kernel
theorem dX7_readsText_11 : decode cX7_readsText 11 = .ok (.getfield 79, 3) := by decide +kernel
theorem dX7_readsText_14 : decode cX7_readsText 14 = .ok (.ifCond .le 7, 3) := by decide +kernel
theorem dX7_readsText_17 : decode cX7_readsText 17 = .ok (.iconst 1, 1) := by decide +kernel
theorem dX7_readsText_18 : decode cX7_readsText 18 = .ok (.goto 4, 3) := by decide +kernel
theorem dX7_readsText_21 : decode cX7_readsText 21 = .ok (.iconst 0, 1) := by decide +kernel
theorem dX7_readsText_22 : decode cX7_readsText 22 = .ok (.istore_n 1, 1) := by decide +kernel
theorem dX7_readsText_23 : decode cX7_readsText 23 = .ok (.iconst 0, 1) := by decide +kernel
theorem dX7_readsText_24 : decode cX7_readsText 24 = .ok (.istore_n 2, 1) := by decide +kernel
theorem dX7_readsText_25 : decode cX7_readsText 25 = .ok (.iload_n 2, 1) := by decide +kernel
theorem dX7_readsText_26 : decode cX7_readsText 26 = .ok (.aload_n 0, 1) := by decide +kernel
theorem dX7_readsText_27 : decode cX7_readsText 27 = .ok (.getfield 79, 3) := by decide +kernel
theorem dX7_readsText_30 : decode cX7_readsText 30 = .ok (.if_icmp .ge 211, 3) := by decide +kernel
theorem dX7_readsText_33 : decode cX7_readsText 33 = .ok (.aload_n 0, 1) := by decide +kernel
theorem dX7_readsText_34 : decode cX7_readsText 34 = .ok (.getfield 7, 3) := by decide +kernel
theorem dX7_readsText_37 : decode cX7_readsText 37 = .ok (.iload_n 2, 1) := by decide +kernel
theorem dX7_readsText_38 : decode cX7_readsText 38 = .ok (.iaload, 1) := by decide +kernel
theorem dX7_readsText_39 : decode cX7_readsText 39 = .ok (.invokestatic 99, 3) := by decide +kernel
theorem dX7_readsText_42 : decode cX7_readsText 42 = .ok (.istore_n 3, 1) := by decide +kernel
theorem dX7_readsText_43 : decode cX7_readsText 43 = .ok (.iload_n 1, 1) := by decide +kernel
theorem dX7_readsText_44 : decode cX7_readsText 44 = .ok (.ifCond .eq 22, 3) := by decide +kernel
theorem dX7_readsText_47 : decode cX7_readsText 47 = .ok (.iload_n 3, 1) := by decide +kernel
theorem dX7_readsText_48 : decode cX7_readsText 48 = .ok (.iconst (-1), 1) := by decide +kernel
theorem dX7_readsText_49 : decode cX7_readsText 49 = .ok (.if_icmp .eq 17, 3) := by decide +kernel
theorem dX7_readsText_52 : decode cX7_readsText 52 = .ok (.iload_n 3, 1) := by decide +kernel
theorem dX7_readsText_53 : decode cX7_readsText 53 = .ok (.iconst 3, 1) := by decide +kernel
theorem dX7_readsText_54 : decode cX7_readsText 54 = .ok (.if_icmp .ne 14, 3) := by decide +kernel
theorem dX7_readsText_57 : decode cX7_readsText 57 = .ok (.aload_n 0, 1) := by decide +kernel
theorem dX7_readsText_58 : decode cX7_readsText 58 = .ok (.getfield 96, 3) := by decide +kernel
theorem dX7_readsText_61 : decode cX7_readsText 61 = .ok (.bipush 6, 2) := by decide +kernel
theorem dX7_readsText_63 : decode cX7_readsText 63 = .ok (.if_icmp .ne 5, 3) := by decide +kernel
theorem dX7_readsText_66 : decode cX7_readsText 66 = .ok (.iload_n 2, 1) := by decide +kernel
theorem dX7_readsText_67 : decode cX7_readsText 67 = .ok (.ireturn, 1) := by decide +kernel
theorem dX7_readsText_68 : decode cX7_readsText 68 = .ok (.aload_n 0, 1) := by decide +kernel
theorem dX7_readsText_69 : decode cX7_readsText 69 = .ok (.getfield 17, 3) := by decide +kernel
theorem dX7_readsText_72 : decode cX7_readsText 72 = .ok (.aload_n 0, 1) := by decide +kernel
theorem dX7_readsText_73 : decode cX7_readsText 73 = .ok (.getfield 93, 3) := by decide +kernel
theorem dX7_readsText_76 : decode cX7_readsText 76 = .ok (.iload_n 3, 1) := by decide +kernel
theorem dX7_readsText_77 : decode cX7_readsText 77 = .ok (.iastore, 1) := by decide +kernel
theorem dX7_readsText_78 : decode cX7_readsText 78 = .ok (.aload_n 0, 1) := by decide +kernel
theorem dX7_readsText_79 : decode cX7_readsText 79 = .ok (.getfield 23, 3) := by decide +kernel
theorem dX7_readsText_82 : decode cX7_readsText 82 = .ok (.aload_n 0, 1) := by decide +kernel
theorem dX7_readsText_83 : decode cX7_readsText 83 = .ok (.getfield 93, 3) := by decide +kernel
theorem dX7_readsText_86 : decode cX7_readsText 86 = .ok (.iload_n 2, 1) := by decide +kernel
theorem dX7_readsText_87 : decode cX7_readsText 87 = .ok (.iastore, 1) := by decide +kernel
theorem dX7_readsText_88 : decode cX7_readsText 88 = .ok (.aload_n 0, 1) := by decide +kernel
theorem dX7_readsText_89 : decode cX7_readsText 89 = .ok (.getfield 20, 3) := by decide +kernel
theorem dX7_readsText_92 : decode cX7_readsText 92 = .ok (.aload_n 0, 1) := by decide +kernel
theorem dX7_readsText_93 : decode cX7_readsText 93 = .ok (.getfield 93, 3) := by decide +kernel
theorem dX7_readsText_96 : decode cX7_readsText 96 = .ok (.iload_n 3, 1) := by decide +kernel
theorem dX7_readsText_97 : decode cX7_readsText 97 = .ok (.ifCond .ne 17, 3) := by decide +kernel
theorem dX7_readsText_100 : decode cX7_readsText 100 = .ok (.aload_n 0, 1) := by decide +kernel
theorem dX7_readsText_101 : decode cX7_readsText 101 = .ok (.getfield 7, 3) := by decide +kernel
theorem dX7_readsText_104 : decode cX7_readsText 104 = .ok (.iload_n 2, 1) := by decide +kernel
theorem dX7_readsText_105 : decode cX7_readsText 105 = .ok (.iaload, 1) := by decide +kernel
theorem dX7_readsText_106 : decode cX7_readsText 106 = .ok (.bipush 97, 2) := by decide +kernel
theorem dX7_readsText_108 : decode cX7_readsText 108 = .ok (.isub, 1) := by decide +kernel
theorem dX7_readsText_109 : decode cX7_readsText 109 = .ok (.iconst 1, 1) := by decide +kernel
theorem dX7_readsText_110 : decode cX7_readsText 110 = .ok (.iadd, 1) := by decide +kernel
theorem dX7_readsText_111 : decode cX7_readsText 111 = .ok (.goto 16, 3) := by decide +kernel
theorem dX7_readsText_114 : decode cX7_readsText 114 = .ok (.iload_n 3, 1) := by decide +kernel
theorem dX7_readsText_115 : decode cX7_readsText 115 = .ok (.iconst 3, 1) := by decide +kernel
theorem dX7_readsText_116 : decode cX7_readsText 116 = .ok (.if_icmp .ne 10, 3) := by decide +kernel
theorem dX7_readsText_119 : decode cX7_readsText 119 = .ok (.aload_n 0, 1) := by decide +kernel
theorem dX7_readsText_120 : decode cX7_readsText 120 = .ok (.getfield 96, 3) := by decide +kernel
theorem dX7_readsText_123 : decode cX7_readsText 123 = .ok (.goto 4, 3) := by decide +kernel
theorem dX7_readsText_126 : decode cX7_readsText 126 = .ok (.iconst 0, 1) := by decide +kernel
theorem dX7_readsText_127 : decode cX7_readsText 127 = .ok (.iastore, 1) := by decide +kernel
theorem dX7_readsText_128 : decode cX7_readsText 128 = .ok (.aload_n 0, 1) := by decide +kernel
theorem dX7_readsText_129 : decode cX7_readsText 129 = .ok (.dup, 1) := by decide +kernel
theorem dX7_readsText_130 : decode cX7_readsText 130 = .ok (.getfield 96, 3) := by decide +kernel
theorem dX7_readsText_133 : decode cX7_readsText 133 = .ok (.iload_n 3, 1) := by decide +kernel
theorem dX7_readsText_134 : decode cX7_readsText 134 = .ok (.iconst 3, 1) := by decide +kernel
theorem dX7_readsText_135 : decode cX7_readsText 135 = .ok (.if_icmp .ne 7, 3) := by decide +kernel
theorem dX7_readsText_138 : decode cX7_readsText 138 = .ok (.iconst 1, 1) := by decide +kernel
theorem dX7_readsText_139 : decode cX7_readsText 139 = .ok (.goto 4, 3) := by decide +kernel
theorem dX7_readsText_142 : decode cX7_readsText 142 = .ok (.iconst 0, 1) := by decide +kernel
theorem dX7_readsText_143 : decode cX7_readsText 143 = .ok (.iadd, 1) := by decide +kernel
theorem dX7_readsText_144 : decode cX7_readsText 144 = .ok (.putfield 96, 3) := by decide +kernel
theorem dX7_readsText_147 : decode cX7_readsText 147 = .ok (.iload_n 1, 1) := by decide +kernel
theorem dX7_readsText_148 : decode cX7_readsText 148 = .ok (.iload_n 3, 1) := by decide +kernel
theorem dX7_readsText_149 : decode cX7_readsText 149 = .ok (.ifCond .ne 7, 3) := by decide +kernel
theorem dX7_readsText_152 : decode cX7_readsText 152 = .ok (.iconst (-1), 1) := by decide +kernel
theorem dX7_readsText_153 : decode cX7_readsText 153 = .ok (.goto 15, 3) := by decide +kernel
theorem dX7_readsText_156 : decode cX7_readsText 156 = .ok (.iload_n 3, 1) := by decide +kernel
theorem dX7_readsText_157 : decode cX7_readsText 157 = .ok (.invokestatic 102, 3) := by decide +kernel
theorem dX7_readsText_160 : decode cX7_readsText 160 = .ok (.ifCond .eq 7, 3) := by decide +kernel
theorem dX7_readsText_163 : decode cX7_readsText 163 = .ok (.iconst 1, 1) := by decide +kernel
theorem dX7_readsText_164 : decode cX7_readsText 164 = .ok (.goto 4, 3) := by decide +kernel
theorem dX7_readsText_167 : decode cX7_readsText 167 = .ok (.iconst 0, 1) := by decide +kernel
theorem dX7_readsText_168 : decode cX7_readsText 168 = .ok (.iadd, 1) := by decide +kernel
theorem dX7_readsText_169 : decode cX7_readsText 169 = .ok (.istore_n 1, 1) := by decide +kernel
theorem dX7_readsText_170 : decode cX7_readsText 170 = .ok (.iinc 2 1, 3) := by decide +kernel
theorem dX7_readsText_173 : decode cX7_readsText 173 = .ok (.iload_n 3, 1) := by decide +kernel
theorem dX7_readsText_174 : decode cX7_readsText 174 = .ok (.iconst 4, 1) := by decide +kernel
theorem dX7_readsText_175 : decode cX7_readsText 175 = .ok (.if_icmp .ne 53, 3) := by decide +kernel
theorem dX7_readsText_178 : decode cX7_readsText 178 = .ok (.iload_n 2, 1) := by decide +kernel
theorem dX7_readsText_179 : decode cX7_readsText 179 = .ok (.aload_n 0, 1) := by decide +kernel
theorem dX7_readsText_180 : decode cX7_readsText 180 = .ok (.getfield 79, 3) := by decide +kernel
theorem dX7_readsText_183 : decode cX7_readsText 183 = .ok (.if_icmp .ge 15, 3) := by decide +kernel
theorem dX7_readsText_186 : decode cX7_readsText 186 = .ok (.aload_n 0, 1) := by decide +kernel
theorem dX7_readsText_187 : decode cX7_readsText 187 = .ok (.getfield 7, 3) := by decide +kernel
theorem dX7_readsText_190 : decode cX7_readsText 190 = .ok (.iload_n 2, 1) := by decide +kernel
theorem dX7_readsText_191 : decode cX7_readsText 191 = .ok (.iaload, 1) := by decide +kernel
theorem dX7_readsText_192 : decode cX7_readsText 192 = .ok (.bipush 48, 2) := by decide +kernel
theorem dX7_readsText_194 : decode cX7_readsText 194 = .ok (.isub, 1) := by decide +kernel
theorem dX7_readsText_195 : decode cX7_readsText 195 = .ok (.goto 4, 3) := by decide +kernel
theorem dX7_readsText_198 : decode cX7_readsText 198 = .ok (.iconst (-1), 1) := by decide +kernel
theorem dX7_readsText_199 : decode cX7_readsText 199 = .ok (.istore 4, 2) := by decide +kernel
theorem dX7_readsText_201 : decode cX7_readsText 201 = .ok (.iload 4, 2) := by decide +kernel
theorem dX7_readsText_203 : decode cX7_readsText 203 = .ok (.iconst 1, 1) := by decide +kernel
theorem dX7_readsText_204 : decode cX7_readsText 204 = .ok (.bipush 9, 2) := by decide +kernel
theorem dX7_readsText_206 : decode cX7_readsText 206 = .ok (.invokestatic 75, 3) := by decide +kernel
theorem dX7_readsText_209 : decode cX7_readsText 209 = .ok (.ifCond .ne 5, 3) := by decide +kernel
theorem dX7_readsText_212 : decode cX7_readsText 212 = .ok (.iload_n 2, 1) := by decide +kernel
theorem dX7_readsText_213 : decode cX7_readsText 213 = .ok (.ireturn, 1) := by decide +kernel
theorem dX7_readsText_214 : decode cX7_readsText 214 = .ok (.aload_n 0, 1) := by decide +kernel
theorem dX7_readsText_215 : decode cX7_readsText 215 = .ok (.getfield 20, 3) := by decide +kernel
theorem dX7_readsText_218 : decode cX7_readsText 218 = .ok (.aload_n 0, 1) := by decide +kernel
theorem dX7_readsText_219 : decode cX7_readsText 219 = .ok (.getfield 93, 3) := by decide +kernel
theorem dX7_readsText_222 : decode cX7_readsText 222 = .ok (.iload 4, 2) := by decide +kernel
theorem dX7_readsText_224 : decode cX7_readsText 224 = .ok (.iastore, 1) := by decide +kernel
theorem dX7_readsText_225 : decode cX7_readsText 225 = .ok (.iinc 2 1, 3) := by decide +kernel
theorem dX7_readsText_228 : decode cX7_readsText 228 = .ok (.aload_n 0, 1) := by decide +kernel
theorem dX7_readsText_229 : decode cX7_readsText 229 = .ok (.dup, 1) := by decide +kernel
theorem dX7_readsText_230 : decode cX7_readsText 230 = .ok (.getfield 93, 3) := by decide +kernel
theorem dX7_readsText_233 : decode cX7_readsText 233 = .ok (.iconst 1, 1) := by decide +kernel
theorem dX7_readsText_234 : decode cX7_readsText 234 = .ok (.iadd, 1) := by decide +kernel
theorem dX7_readsText_235 : decode cX7_readsText 235 = .ok (.putfield 93, 3) := by decide +kernel
theorem dX7_readsText_238 : decode cX7_readsText 238 = .ok (.goto (-213), 3) := by decide +kernel
theorem dX7_readsText_241 : decode cX7_readsText 241 = .ok (.iload_n 1, 1) := by decide +kernel
theorem dX7_readsText_242 : decode cX7_readsText 242 = .ok (.ifCond .le 10, 3) := by decide +kernel
theorem dX7_readsText_245 : decode cX7_readsText 245 = .ok (.aload_n 0, 1) := by decide +kernel
theorem dX7_readsText_246 : decode cX7_readsText 246 = .ok (.getfield 79, 3) := by decide +kernel
theorem dX7_readsText_249 : decode cX7_readsText 249 = .ok (.goto 4, 3) := by decide +kernel
theorem dX7_readsText_252 : decode cX7_readsText 252 = .ok (.iconst (-1), 1) := by decide +kernel
theorem dX7_readsText_253 : decode cX7_readsText 253 = .ok (.ireturn, 1) := by decide +kernel
theorem dX7_reads_0 : decode cX7_reads 0 = .ok (.aload_n 0, 1) := by decide +kernel
theorem dX7_reads_1 : decode cX7_reads 1 = .ok (.aload_n 0, 1) := by decide +kernel
theorem dX7_reads_2 : decode cX7_reads 2 = .ok (.invokevirtual 105, 3) := by decide +kernel
theorem dX7_reads_5 : decode cX7_reads 5 = .ok (.putfield 109, 3) := by decide +kernel
theorem dX7_reads_8 : decode cX7_reads 8 = .ok (.aload_n 0, 1) := by decide +kernel
theorem dX7_reads_9 : decode cX7_reads 9 = .ok (.aload_n 0, 1) := by decide +kernel
theorem dX7_reads_10 : decode cX7_reads 10 = .ok (.getfield 109, 3) := by decide +kernel
theorem dX7_reads_13 : decode cX7_reads 13 = .ok (.iconst (-1), 1) := by decide +kernel
theorem dX7_reads_14 : decode cX7_reads 14 = .ok (.if_icmp .ne 10, 3) := by decide +kernel
theorem dX7_reads_17 : decode cX7_reads 17 = .ok (.aload_n 0, 1) := by decide +kernel
theorem dX7_reads_18 : decode cX7_reads 18 = .ok (.getfield 93, 3) := by decide +kernel
theorem dX7_reads_21 : decode cX7_reads 21 = .ok (.goto 4, 3) := by decide +kernel
theorem dX7_reads_24 : decode cX7_reads 24 = .ok (.iconst 0, 1) := by decide +kernel
theorem dX7_reads_25 : decode cX7_reads 25 = .ok (.putfield 93, 3) := by decide +kernel
theorem dX7_reads_28 : decode cX7_reads 28 = .ok (.aload_n 0, 1) := by decide +kernel
theorem dX7_reads_29 : decode cX7_reads 29 = .ok (.aload_n 0, 1) := by decide +kernel
theorem dX7_reads_30 : decode cX7_reads 30 = .ok (.getfield 109, 3) := by decide +kernel
theorem dX7_reads_33 : decode cX7_reads 33 = .ok (.iconst (-1), 1) := by decide +kernel
theorem dX7_reads_34 : decode cX7_reads 34 = .ok (.if_icmp .ne 10, 3) := by decide +kernel
theorem dX7_reads_37 : decode cX7_reads 37 = .ok (.aload_n 0, 1) := by decide +kernel
theorem dX7_reads_38 : decode cX7_reads 38 = .ok (.getfield 96, 3) := by decide +kernel
theorem dX7_reads_41 : decode cX7_reads 41 = .ok (.goto 4, 3) := by decide +kernel
theorem dX7_reads_44 : decode cX7_reads 44 = .ok (.iconst 0, 1) := by decide +kernel
theorem dX7_reads_45 : decode cX7_reads 45 = .ok (.putfield 96, 3) := by decide +kernel
theorem dX7_reads_48 : decode cX7_reads 48 = .ok (.aload_n 0, 1) := by decide +kernel
theorem dX7_reads_49 : decode cX7_reads 49 = .ok (.getfield 93, 3) := by decide +kernel
theorem dX7_reads_52 : decode cX7_reads 52 = .ok (.iconst 1, 1) := by decide +kernel
theorem dX7_reads_53 : decode cX7_reads 53 = .ok (.isub, 1) := by decide +kernel
theorem dX7_reads_54 : decode cX7_reads 54 = .ok (.istore_n 1, 1) := by decide +kernel
theorem dX7_reads_55 : decode cX7_reads 55 = .ok (.iload_n 1, 1) := by decide +kernel
theorem dX7_reads_56 : decode cX7_reads 56 = .ok (.ifCond .lt 146, 3) := by decide +kernel
theorem dX7_reads_59 : decode cX7_reads 59 = .ok (.aload_n 0, 1) := by decide +kernel
theorem dX7_reads_60 : decode cX7_reads 60 = .ok (.getfield 17, 3) := by decide +kernel
theorem dX7_reads_63 : decode cX7_reads 63 = .ok (.iload_n 1, 1) := by decide +kernel
theorem dX7_reads_64 : decode cX7_reads 64 = .ok (.iaload, 1) := by decide +kernel
theorem dX7_reads_65 : decode cX7_reads 65 = .ok (.istore_n 2, 1) := by decide +kernel
theorem dX7_reads_66 : decode cX7_reads 66 = .ok (.aload_n 0, 1) := by decide +kernel
theorem dX7_reads_67 : decode cX7_reads 67 = .ok (.getfield 26, 3) := by decide +kernel
theorem dX7_reads_70 : decode cX7_reads 70 = .ok (.iload_n 1, 1) := by decide +kernel
theorem dX7_reads_71 : decode cX7_reads 71 = .ok (.iload_n 2, 1) := by decide +kernel
theorem dX7_reads_72 : decode cX7_reads 72 = .ok (.iconst 4, 1) := by decide +kernel
theorem dX7_reads_73 : decode cX7_reads 73 = .ok (.if_icmp .ne 7, 3) := by decide +kernel
theorem dX7_reads_76 : decode cX7_reads 76 = .ok (.iconst 2, 1) := by decide +kernel
theorem dX7_reads_77 : decode cX7_reads 77 = .ok (.goto 4, 3) := by decide +kernel
theorem dX7_reads_80 : decode cX7_reads 80 = .ok (.iconst 1, 1) := by decide +kernel
theorem dX7_reads_81 : decode cX7_reads 81 = .ok (.iastore, 1) := by decide +kernel
theorem dX7_reads_82 : decode cX7_reads 82 = .ok (.aload_n 0, 1) := by decide +kernel
theorem dX7_reads_83 : decode cX7_reads 83 = .ok (.getfield 29, 3) := by decide +kernel
theorem dX7_reads_86 : decode cX7_reads 86 = .ok (.iload_n 1, 1) := by decide +kernel
theorem dX7_reads_87 : decode cX7_reads 87 = .ok (.iconst 1, 1) := by decide +kernel
theorem dX7_reads_88 : decode cX7_reads 88 = .ok (.iastore, 1) := by decide +kernel
theorem dX7_reads_89 : decode cX7_reads 89 = .ok (.iload_n 2, 1) := by decide +kernel
theorem dX7_reads_90 : decode cX7_reads 90 = .ok (.ifCond .eq 46, 3) := by decide +kernel
theorem dX7_reads_93 : decode cX7_reads 93 = .ok (.aload_n 0, 1) := by decide +kernel
theorem dX7_reads_94 : decode cX7_reads 94 = .ok (.getfield 35, 3) := by decide +kernel
theorem dX7_reads_97 : decode cX7_reads 97 = .ok (.iload_n 1, 1) := by decide +kernel
theorem dX7_reads_98 : decode cX7_reads 98 = .ok (.iconst 1, 1) := by decide +kernel
theorem dX7_reads_99 : decode cX7_reads 99 = .ok (.iadd, 1) := by decide +kernel
theorem dX7_reads_100 : decode cX7_reads 100 = .ok (.iload_n 1, 1) := by decide +kernel
theorem dX7_reads_101 : decode cX7_reads 101 = .ok (.iastore, 1) := by decide +kernel
theorem dX7_reads_102 : decode cX7_reads 102 = .ok (.aload_n 0, 1) := by decide +kernel
theorem dX7_reads_103 : decode cX7_reads 103 = .ok (.getfield 26, 3) := by decide +kernel
theorem dX7_reads_106 : decode cX7_reads 106 = .ok (.iload_n 1, 1) := by decide +kernel
theorem dX7_reads_107 : decode cX7_reads 107 = .ok (.dup2, 1) := by decide +kernel
theorem dX7_reads_108 : decode cX7_reads 108 = .ok (.iaload, 1) := by decide +kernel
theorem dX7_reads_109 : decode cX7_reads 109 = .ok (.aload_n 0, 1) := by decide +kernel
theorem dX7_reads_110 : decode cX7_reads 110 = .ok (.getfield 26, 3) := by decide +kernel
theorem dX7_reads_113 : decode cX7_reads 113 = .ok (.iload_n 1, 1) := by decide +kernel
theorem dX7_reads_114 : decode cX7_reads 114 = .ok (.iconst 1, 1) := by decide +kernel
theorem dX7_reads_115 : decode cX7_reads 115 = .ok (.iadd, 1) := by decide +kernel
theorem dX7_reads_116 : decode cX7_reads 116 = .ok (.iaload, 1) := by decide +kernel
theorem dX7_reads_117 : decode cX7_reads 117 = .ok (.iadd, 1) := by decide +kernel
theorem dX7_reads_118 : decode cX7_reads 118 = .ok (.iastore, 1) := by decide +kernel
theorem dX7_reads_119 : decode cX7_reads 119 = .ok (.aload_n 0, 1) := by decide +kernel
theorem dX7_reads_120 : decode cX7_reads 120 = .ok (.getfield 29, 3) := by decide +kernel
theorem dX7_reads_123 : decode cX7_reads 123 = .ok (.iload_n 1, 1) := by decide +kernel
theorem dX7_reads_124 : decode cX7_reads 124 = .ok (.dup2, 1) := by decide +kernel
theorem dX7_reads_125 : decode cX7_reads 125 = .ok (.iaload, 1) := by decide +kernel
theorem dX7_reads_126 : decode cX7_reads 126 = .ok (.aload_n 0, 1) := by decide +kernel
theorem dX7_reads_127 : decode cX7_reads 127 = .ok (.getfield 29, 3) := by decide +kernel
theorem dX7_reads_130 : decode cX7_reads 130 = .ok (.iload_n 1, 1) := by decide +kernel
theorem dX7_reads_131 : decode cX7_reads 131 = .ok (.iconst 1, 1) := by decide +kernel
theorem dX7_reads_132 : decode cX7_reads 132 = .ok (.iadd, 1) := by decide +kernel
theorem dX7_reads_133 : decode cX7_reads 133 = .ok (.iaload, 1) := by decide +kernel
theorem dX7_reads_134 : decode cX7_reads 134 = .ok (.iadd, 1) := by decide +kernel
theorem dX7_reads_135 : decode cX7_reads 135 = .ok (.iastore, 1) := by decide +kernel
theorem dX7_reads_136 : decode cX7_reads 136 = .ok (.iload_n 2, 1) := by decide +kernel
theorem dX7_reads_137 : decode cX7_reads 137 = .ok (.invokestatic 102, 3) := by decide +kernel
theorem dX7_reads_140 : decode cX7_reads 140 = .ok (.ifCond .eq 56, 3) := by decide +kernel
theorem dX7_reads_143 : decode cX7_reads 143 = .ok (.iload_n 1, 1) := by decide +kernel
theorem dX7_reads_144 : decode cX7_reads 144 = .ok (.aload_n 0, 1) := by decide +kernel
theorem dX7_reads_145 : decode cX7_reads 145 = .ok (.getfield 29, 3) := by decide +kernel
theorem dX7_reads_148 : decode cX7_reads 148 = .ok (.iload_n 1, 1) := by decide +kernel
theorem dX7_reads_149 : decode cX7_reads 149 = .ok (.iaload, 1) := by decide +kernel
theorem dX7_reads_150 : decode cX7_reads 150 = .ok (.iadd, 1) := by decide +kernel
theorem dX7_reads_151 : decode cX7_reads 151 = .ok (.istore_n 3, 1) := by decide +kernel
theorem dX7_reads_152 : decode cX7_reads 152 = .ok (.aload_n 0, 1) := by decide +kernel
theorem dX7_reads_153 : decode cX7_reads 153 = .ok (.getfield 32, 3) := by decide +kernel
theorem dX7_reads_156 : decode cX7_reads 156 = .ok (.iload_n 1, 1) := by decide +kernel
theorem dX7_reads_157 : decode cX7_reads 157 = .ok (.iload_n 3, 1) := by decide +kernel
theorem dX7_reads_158 : decode cX7_reads 158 = .ok (.iastore, 1) := by decide +kernel
theorem dX7_reads_159 : decode cX7_reads 159 = .ok (.aload_n 0, 1) := by decide +kernel
theorem dX7_reads_160 : decode cX7_reads 160 = .ok (.getfield 35, 3) := by decide +kernel
theorem dX7_reads_163 : decode cX7_reads 163 = .ok (.iload_n 3, 1) := by decide +kernel
theorem dX7_reads_164 : decode cX7_reads 164 = .ok (.iload_n 1, 1) := by decide +kernel
theorem dX7_reads_165 : decode cX7_reads 165 = .ok (.iastore, 1) := by decide +kernel
theorem dX7_reads_166 : decode cX7_reads 166 = .ok (.aload_n 0, 1) := by decide +kernel
theorem dX7_reads_167 : decode cX7_reads 167 = .ok (.getfield 26, 3) := by decide +kernel
theorem dX7_reads_170 : decode cX7_reads 170 = .ok (.iload_n 1, 1) := by decide +kernel
theorem dX7_reads_171 : decode cX7_reads 171 = .ok (.dup2, 1) := by decide +kernel
theorem dX7_reads_172 : decode cX7_reads 172 = .ok (.iaload, 1) := by decide +kernel
theorem dX7_reads_173 : decode cX7_reads 173 = .ok (.aload_n 0, 1) := by decide +kernel
theorem dX7_reads_174 : decode cX7_reads 174 = .ok (.getfield 26, 3) := by decide +kernel
theorem dX7_reads_177 : decode cX7_reads 177 = .ok (.iload_n 3, 1) := by decide +kernel
theorem dX7_reads_178 : decode cX7_reads 178 = .ok (.iaload, 1) := by decide +kernel
theorem dX7_reads_179 : decode cX7_reads 179 = .ok (.iadd, 1) := by decide +kernel
theorem dX7_reads_180 : decode cX7_reads 180 = .ok (.iastore, 1) := by decide +kernel
theorem dX7_reads_181 : decode cX7_reads 181 = .ok (.aload_n 0, 1) := by decide +kernel
theorem dX7_reads_182 : decode cX7_reads 182 = .ok (.getfield 29, 3) := by decide +kernel
theorem dX7_reads_185 : decode cX7_reads 185 = .ok (.iload_n 1, 1) := by decide +kernel
theorem dX7_reads_186 : decode cX7_reads 186 = .ok (.dup2, 1) := by decide +kernel
theorem dX7_reads_187 : decode cX7_reads 187 = .ok (.iaload, 1) := by decide +kernel
theorem dX7_reads_188 : decode cX7_reads 188 = .ok (.aload_n 0, 1) := by decide +kernel
theorem dX7_reads_189 : decode cX7_reads 189 = .ok (.getfield 29, 3) := by decide +kernel
theorem dX7_reads_192 : decode cX7_reads 192 = .ok (.iload_n 3, 1) := by decide +kernel
theorem dX7_reads_193 : decode cX7_reads 193 = .ok (.iaload, 1) := by decide +kernel
theorem dX7_reads_194 : decode cX7_reads 194 = .ok (.iadd, 1) := by decide +kernel
theorem dX7_reads_195 : decode cX7_reads 195 = .ok (.iastore, 1) := by decide +kernel
theorem dX7_reads_196 : decode cX7_reads 196 = .ok (.iinc 1 (-1), 3) := by decide +kernel
theorem dX7_reads_199 : decode cX7_reads 199 = .ok (.goto (-144), 3) := by decide +kernel
theorem dX7_reads_202 : decode cX7_reads 202 = .ok (.aload_n 0, 1) := by decide +kernel
theorem dX7_reads_203 : decode cX7_reads 203 = .ok (.getfield 35, 3) := by decide +kernel
theorem dX7_reads_206 : decode cX7_reads 206 = .ok (.iconst 0, 1) := by decide +kernel
theorem dX7_reads_207 : decode cX7_reads 207 = .ok (.iconst (-1), 1) := by decide +kernel
theorem dX7_reads_208 : decode cX7_reads 208 = .ok (.iastore, 1) := by decide +kernel
theorem dX7_reads_209 : decode cX7_reads 209 = .ok (.return_, 1) := by decide +kernel
theorem dX7_faultOf_0 : decode cX7_faultOf 0 = .ok (.aload_n 0, 1) := by decide +kernel
theorem dX7_faultOf_1 : decode cX7_faultOf 1 = .ok (.invokevirtual 112, 3) := by decide +kernel
theorem dX7_faultOf_4 : decode cX7_faultOf 4 = .ok (.aload_n 0, 1) := by decide +kernel
theorem dX7_faultOf_5 : decode cX7_faultOf 5 = .ok (.getfield 109, 3) := by decide +kernel
theorem dX7_faultOf_8 : decode cX7_faultOf 8 = .ok (.ireturn, 1) := by decide +kernel
theorem dX7_fault_0 : decode cX7_fault 0 = .ok (.aload_n 0, 1) := by decide +kernel
theorem dX7_fault_1 : decode cX7_fault 1 = .ok (.invokevirtual 115, 3) := by decide +kernel
theorem dX7_fault_4 : decode cX7_fault 4 = .ok (.ireturn, 1) := by decide +kernel
theorem dX7_shape_0 : decode cX7_shape 0 = .ok (.iload_n 0, 1) := by decide +kernel
theorem dX7_shape_1 : decode cX7_shape 1 = .ok (.iload_n 1, 1) := by decide +kernel
theorem dX7_shape_2 : decode cX7_shape 2 = .ok (.bipush 6, 2) := by decide +kernel
theorem dX7_shape_4 : decode cX7_shape 4 = .ok (.ishl, 1) := by decide +kernel
theorem dX7_shape_5 : decode cX7_shape 5 = .ok (.ior, 1) := by decide +kernel
theorem dX7_shape_6 : decode cX7_shape 6 = .ok (.iload_n 2, 1) := by decide +kernel
theorem dX7_shape_7 : decode cX7_shape 7 = .ok (.bipush 15, 2) := by decide +kernel
theorem dX7_shape_9 : decode cX7_shape 9 = .ok (.ishl, 1) := by decide +kernel
theorem dX7_shape_10 : decode cX7_shape 10 = .ok (.ior, 1) := by decide +kernel
theorem dX7_shape_11 : decode cX7_shape 11 = .ok (.iload_n 3, 1) := by decide +kernel
theorem dX7_shape_12 : decode cX7_shape 12 = .ok (.bipush 24, 2) := by decide +kernel
theorem dX7_shape_14 : decode cX7_shape 14 = .ok (.ishl, 1) := by decide +kernel
theorem dX7_shape_15 : decode cX7_shape 15 = .ok (.ior, 1) := by decide +kernel
theorem dX7_shape_16 : decode cX7_shape 16 = .ok (.ireturn, 1) := by decide +kernel
theorem dX7_lines_0 : decode cX7_lines 0 = .ok (.iload_n 0, 1) := by decide +kernel
theorem dX7_lines_1 : decode cX7_lines 1 = .ok (.bipush 63, 2) := by decide +kernel
theorem dX7_lines_3 : decode cX7_lines 3 = .ok (.iand, 1) := by decide +kernel
theorem dX7_lines_4 : decode cX7_lines 4 = .ok (.ireturn, 1) := by decide +kernel
theorem dX7_last_0 : decode cX7_last 0 = .ok (.iload_n 0, 1) := by decide +kernel
theorem dX7_last_1 : decode cX7_last 1 = .ok (.bipush 6, 2) := by decide +kernel
theorem dX7_last_3 : decode cX7_last 3 = .ok (.ishr, 1) := by decide +kernel
theorem dX7_last_4 : decode cX7_last 4 = .ok (.sipush 511, 3) := by decide +kernel
theorem dX7_last_7 : decode cX7_last 7 = .ok (.iand, 1) := by decide +kernel
theorem dX7_last_8 : decode cX7_last 8 = .ok (.ireturn, 1) := by decide +kernel
theorem dX7_most_0 : decode cX7_most 0 = .ok (.iload_n 0, 1) := by decide +kernel
theorem dX7_most_1 : decode cX7_most 1 = .ok (.bipush 15, 2) := by decide +kernel
theorem dX7_most_3 : decode cX7_most 3 = .ok (.ishr, 1) := by decide +kernel
theorem dX7_most_4 : decode cX7_most 4 = .ok (.sipush 511, 3) := by decide +kernel
theorem dX7_most_7 : decode cX7_most 7 = .ok (.iand, 1) := by decide +kernel
theorem dX7_most_8 : decode cX7_most 8 = .ok (.ireturn, 1) := by decide +kernel
theorem dX7_wayOf_0 : decode cX7_wayOf 0 = .ok (.iload_n 0, 1) := by decide +kernel
theorem dX7_wayOf_1 : decode cX7_wayOf 1 = .ok (.bipush 24, 2) := by decide +kernel
theorem dX7_wayOf_3 : decode cX7_wayOf 3 = .ok (.ishr, 1) := by decide +kernel
theorem dX7_wayOf_4 : decode cX7_wayOf 4 = .ok (.ireturn, 1) := by decide +kernel
theorem dX7_max_0 : decode cX7_max 0 = .ok (.iload_n 0, 1) := by decide +kernel
theorem dX7_max_1 : decode cX7_max 1 = .ok (.iload_n 1, 1) := by decide +kernel
theorem dX7_max_2 : decode cX7_max 2 = .ok (.if_icmp .le 7, 3) := by decide +kernel
theorem dX7_max_5 : decode cX7_max 5 = .ok (.iload_n 0, 1) := by decide +kernel
theorem dX7_max_6 : decode cX7_max 6 = .ok (.goto 4, 3) := by decide +kernel
theorem dX7_max_9 : decode cX7_max 9 = .ok (.iload_n 1, 1) := by decide +kernel
theorem dX7_max_10 : decode cX7_max 10 = .ok (.ireturn, 1) := by decide +kernel
theorem dX7_both_0 : decode cX7_both 0 = .ok (.iload_n 1, 1) := by decide +kernel
theorem dX7_both_1 : decode cX7_both 1 = .ok (.invokestatic 118, 3) := by decide +kernel
theorem dX7_both_4 : decode cX7_both 4 = .ok (.iload_n 2, 1) := by decide +kernel
theorem dX7_both_5 : decode cX7_both 5 = .ok (.invokestatic 118, 3) := by decide +kernel
theorem dX7_both_8 : decode cX7_both 8 = .ok (.ior, 1) := by decide +kernel
theorem dX7_both_9 : decode cX7_both 9 = .ok (.istore_n 3, 1) := by decide +kernel
theorem dX7_both_10 : decode cX7_both 10 = .ok (.iload_n 0, 1) := by decide +kernel
theorem dX7_both_11 : decode cX7_both 11 = .ok (.iconst 1, 1) := by decide +kernel
theorem dX7_both_12 : decode cX7_both 12 = .ok (.if_icmp .ne 44, 3) := by decide +kernel
theorem dX7_both_15 : decode cX7_both 15 = .ok (.iload_n 1, 1) := by decide +kernel
theorem dX7_both_16 : decode cX7_both 16 = .ok (.invokestatic 121, 3) := by decide +kernel
theorem dX7_both_19 : decode cX7_both 19 = .ok (.iload_n 2, 1) := by decide +kernel
theorem dX7_both_20 : decode cX7_both 20 = .ok (.invokestatic 121, 3) := by decide +kernel
theorem dX7_both_23 : decode cX7_both 23 = .ok (.iadd, 1) := by decide +kernel
theorem dX7_both_24 : decode cX7_both 24 = .ok (.iconst 1, 1) := by decide +kernel
theorem dX7_both_25 : decode cX7_both 25 = .ok (.isub, 1) := by decide +kernel
theorem dX7_both_26 : decode cX7_both 26 = .ok (.iload_n 1, 1) := by decide +kernel
theorem dX7_both_27 : decode cX7_both 27 = .ok (.invokestatic 124, 3) := by decide +kernel
theorem dX7_both_30 : decode cX7_both 30 = .ok (.iload_n 2, 1) := by decide +kernel
theorem dX7_both_31 : decode cX7_both 31 = .ok (.invokestatic 124, 3) := by decide +kernel
theorem dX7_both_34 : decode cX7_both 34 = .ok (.iadd, 1) := by decide +kernel
theorem dX7_both_35 : decode cX7_both 35 = .ok (.iload_n 1, 1) := by decide +kernel
theorem dX7_both_36 : decode cX7_both 36 = .ok (.invokestatic 127, 3) := by decide +kernel
theorem dX7_both_39 : decode cX7_both 39 = .ok (.iload_n 1, 1) := by decide +kernel
theorem dX7_both_40 : decode cX7_both 40 = .ok (.invokestatic 124, 3) := by decide +kernel
theorem dX7_both_43 : decode cX7_both 43 = .ok (.iload_n 2, 1) := by decide +kernel
theorem dX7_both_44 : decode cX7_both 44 = .ok (.invokestatic 127, 3) := by decide +kernel
theorem dX7_both_47 : decode cX7_both 47 = .ok (.iadd, 1) := by decide +kernel
theorem dX7_both_48 : decode cX7_both 48 = .ok (.invokestatic 130, 3) := by decide +kernel
theorem dX7_both_51 : decode cX7_both 51 = .ok (.iload_n 3, 1) := by decide +kernel
theorem dX7_both_52 : decode cX7_both 52 = .ok (.invokestatic 134, 3) := by decide +kernel
theorem dX7_both_55 : decode cX7_both 55 = .ok (.ireturn, 1) := by decide +kernel
theorem dX7_both_56 : decode cX7_both 56 = .ok (.iload_n 1, 1) := by decide +kernel
theorem dX7_both_57 : decode cX7_both 57 = .ok (.invokestatic 121, 3) := by decide +kernel
theorem dX7_both_60 : decode cX7_both 60 = .ok (.iload_n 2, 1) := by decide +kernel
theorem dX7_both_61 : decode cX7_both 61 = .ok (.invokestatic 121, 3) := by decide +kernel
theorem dX7_both_64 : decode cX7_both 64 = .ok (.iadd, 1) := by decide +kernel
theorem dX7_both_65 : decode cX7_both 65 = .ok (.iload_n 2, 1) := by decide +kernel
theorem dX7_both_66 : decode cX7_both 66 = .ok (.invokestatic 124, 3) := by decide +kernel
theorem dX7_both_69 : decode cX7_both 69 = .ok (.iload_n 1, 1) := by decide +kernel
theorem dX7_both_70 : decode cX7_both 70 = .ok (.invokestatic 127, 3) := by decide +kernel
theorem dX7_both_73 : decode cX7_both 73 = .ok (.iload_n 2, 1) := by decide +kernel
theorem dX7_both_74 : decode cX7_both 74 = .ok (.invokestatic 127, 3) := by decide +kernel
theorem dX7_both_77 : decode cX7_both 77 = .ok (.invokestatic 130, 3) := by decide +kernel
theorem dX7_both_80 : decode cX7_both 80 = .ok (.iload_n 3, 1) := by decide +kernel
theorem dX7_both_81 : decode cX7_both 81 = .ok (.invokestatic 134, 3) := by decide +kernel
theorem dX7_both_84 : decode cX7_both 84 = .ok (.ireturn, 1) := by decide +kernel
theorem dX7_pushed_0 : decode cX7_pushed 0 = .ok (.iload_n 0, 1) := by decide +kernel
theorem dX7_pushed_1 : decode cX7_pushed 1 = .ok (.invokestatic 121, 3) := by decide +kernel
theorem dX7_pushed_4 : decode cX7_pushed 4 = .ok (.iload_n 0, 1) := by decide +kernel
theorem dX7_pushed_5 : decode cX7_pushed 5 = .ok (.invokestatic 124, 3) := by decide +kernel
theorem dX7_pushed_8 : decode cX7_pushed 8 = .ok (.iload_n 1, 1) := by decide +kernel
theorem dX7_pushed_9 : decode cX7_pushed 9 = .ok (.iadd, 1) := by decide +kernel
theorem dX7_pushed_10 : decode cX7_pushed 10 = .ok (.iload_n 0, 1) := by decide +kernel
theorem dX7_pushed_11 : decode cX7_pushed 11 = .ok (.invokestatic 127, 3) := by decide +kernel
theorem dX7_pushed_14 : decode cX7_pushed 14 = .ok (.iload_n 1, 1) := by decide +kernel
theorem dX7_pushed_15 : decode cX7_pushed 15 = .ok (.iadd, 1) := by decide +kernel
theorem dX7_pushed_16 : decode cX7_pushed 16 = .ok (.iload_n 0, 1) := by decide +kernel
theorem dX7_pushed_17 : decode cX7_pushed 17 = .ok (.invokestatic 118, 3) := by decide +kernel
theorem dX7_pushed_20 : decode cX7_pushed 20 = .ok (.invokestatic 134, 3) := by decide +kernel
theorem dX7_pushed_23 : decode cX7_pushed 23 = .ok (.ireturn, 1) := by decide +kernel
theorem dX7_isNoGreater_0 : decode cX7_isNoGreater 0 = .ok (.iload_n 0, 1) := by decide +kernel
theorem dX7_isNoGreater_1 : decode cX7_isNoGreater 1 = .ok (.invokestatic 121, 3) := by decide +kernel
theorem dX7_isNoGreater_4 : decode cX7_isNoGreater 4 = .ok (.iload_n 1, 1) := by decide +kernel
theorem dX7_isNoGreater_5 : decode cX7_isNoGreater 5 = .ok (.invokestatic 121, 3) := by decide +kernel
theorem dX7_isNoGreater_8 : decode cX7_isNoGreater 8 = .ok (.if_icmp .gt 29, 3) := by decide +kernel
theorem dX7_isNoGreater_11 : decode cX7_isNoGreater 11 = .ok (.iload_n 0, 1) := by decide +kernel
theorem dX7_isNoGreater_12 : decode cX7_isNoGreater 12 = .ok (.invokestatic 124, 3) := by decide +kernel
theorem dX7_isNoGreater_15 : decode cX7_isNoGreater 15 = .ok (.iload_n 1, 1) := by decide +kernel
theorem dX7_isNoGreater_16 : decode cX7_isNoGreater 16 = .ok (.invokestatic 124, 3) := by decide +kernel
theorem dX7_isNoGreater_19 : decode cX7_isNoGreater 19 = .ok (.if_icmp .gt 18, 3) := by decide +kernel
theorem dX7_isNoGreater_22 : decode cX7_isNoGreater 22 = .ok (.iload_n 0, 1) := by decide +kernel
theorem dX7_isNoGreater_23 : decode cX7_isNoGreater 23 = .ok (.invokestatic 127, 3) := by decide +kernel
theorem dX7_isNoGreater_26 : decode cX7_isNoGreater 26 = .ok (.iload_n 1, 1) := by decide +kernel
theorem dX7_isNoGreater_27 : decode cX7_isNoGreater 27 = .ok (.invokestatic 127, 3) := by decide +kernel
theorem dX7_isNoGreater_30 : decode cX7_isNoGreater 30 = .ok (.if_icmp .gt 7, 3) := by decide +kernel
theorem dX7_isNoGreater_33 : decode cX7_isNoGreater 33 = .ok (.iconst 1, 1) := by decide +kernel
theorem dX7_isNoGreater_34 : decode cX7_isNoGreater 34 = .ok (.goto 4, 3) := by decide +kernel
theorem dX7_isNoGreater_37 : decode cX7_isNoGreater 37 = .ok (.iconst 0, 1) := by decide +kernel
theorem dX7_isNoGreater_38 : decode cX7_isNoGreater 38 = .ok (.ireturn, 1) := by decide +kernel
theorem dX7_tries_0 : decode cX7_tries 0 = .ok (.bipush 64, 2) := by decide +kernel
theorem dX7_tries_2 : decode cX7_tries 2 = .ok (.iload_n 1, 1) := by decide +kernel
theorem dX7_tries_3 : decode cX7_tries 3 = .ok (.imul, 1) := by decide +kernel
theorem dX7_tries_4 : decode cX7_tries 4 = .ok (.istore_n 3, 1) := by decide +kernel
theorem dX7_tries_5 : decode cX7_tries 5 = .ok (.aload_n 0, 1) := by decide +kernel
theorem dX7_tries_6 : decode cX7_tries 6 = .ok (.dup, 1) := by decide +kernel
theorem dX7_tries_7 : decode cX7_tries 7 = .ok (.getfield 138, 3) := by decide +kernel
theorem dX7_tries_10 : decode cX7_tries 10 = .ok (.iconst 1, 1) := by decide +kernel
theorem dX7_tries_11 : decode cX7_tries 11 = .ok (.iadd, 1) := by decide +kernel
theorem dX7_tries_12 : decode cX7_tries 12 = .ok (.putfield 138, 3) := by decide +kernel
theorem dX7_tries_15 : decode cX7_tries 15 = .ok (.iload_n 2, 1) := by decide +kernel
theorem dX7_tries_16 : decode cX7_tries 16 = .ok (.invokestatic 127, 3) := by decide +kernel
theorem dX7_tries_19 : decode cX7_tries 19 = .ok (.aload_n 0, 1) := by decide +kernel
theorem dX7_tries_20 : decode cX7_tries 20 = .ok (.getfield 141, 3) := by decide +kernel
theorem dX7_tries_23 : decode cX7_tries 23 = .ok (.if_icmp .gt 21, 3) := by decide +kernel
theorem dX7_tries_26 : decode cX7_tries 26 = .ok (.aload_n 0, 1) := by decide +kernel
theorem dX7_tries_27 : decode cX7_tries 27 = .ok (.getfield 17, 3) := by decide +kernel
theorem dX7_tries_30 : decode cX7_tries 30 = .ok (.iload_n 1, 1) := by decide +kernel
theorem dX7_tries_31 : decode cX7_tries 31 = .ok (.iaload, 1) := by decide +kernel
theorem dX7_tries_32 : decode cX7_tries 32 = .ok (.iconst 5, 1) := by decide +kernel
theorem dX7_tries_33 : decode cX7_tries 33 = .ok (.if_icmp .ne 15, 3) := by decide +kernel
theorem dX7_tries_36 : decode cX7_tries 36 = .ok (.iload_n 2, 1) := by decide +kernel
theorem dX7_tries_37 : decode cX7_tries 37 = .ok (.invokestatic 121, 3) := by decide +kernel
theorem dX7_tries_40 : decode cX7_tries 40 = .ok (.iconst 1, 1) := by decide +kernel
theorem dX7_tries_41 : decode cX7_tries 41 = .ok (.if_icmp .le 7, 3) := by decide +kernel
theorem dX7_tries_44 : decode cX7_tries 44 = .ok (.iconst 1, 1) := by decide +kernel
theorem dX7_tries_45 : decode cX7_tries 45 = .ok (.goto 4, 3) := by decide +kernel
theorem dX7_tries_48 : decode cX7_tries 48 = .ok (.iconst 0, 1) := by decide +kernel
theorem dX7_tries_49 : decode cX7_tries 49 = .ok (.istore 4, 2) := by decide +kernel
theorem dX7_tries_51 : decode cX7_tries 51 = .ok (.iconst 0, 1) := by decide +kernel
theorem dX7_tries_52 : decode cX7_tries 52 = .ok (.istore 5, 2) := by decide +kernel
theorem dX7_tries_54 : decode cX7_tries 54 = .ok (.iload 5, 2) := by decide +kernel
theorem dX7_tries_56 : decode cX7_tries 56 = .ok (.aload_n 0, 1) := by decide +kernel
theorem dX7_tries_57 : decode cX7_tries 57 = .ok (.getfield 41, 3) := by decide +kernel
theorem dX7_tries_60 : decode cX7_tries 60 = .ok (.iload_n 1, 1) := by decide +kernel
theorem dX7_tries_61 : decode cX7_tries 61 = .ok (.iaload, 1) := by decide +kernel
theorem dX7_tries_62 : decode cX7_tries 62 = .ok (.if_icmp .ge 29, 3) := by decide +kernel
theorem dX7_tries_65 : decode cX7_tries 65 = .ok (.iload 4, 2) := by decide +kernel
theorem dX7_tries_67 : decode cX7_tries 67 = .ok (.ifCond .ne 24, 3) := by decide +kernel
theorem dX7_tries_70 : decode cX7_tries 70 = .ok (.aload_n 0, 1) := by decide +kernel
theorem dX7_tries_71 : decode cX7_tries 71 = .ok (.getfield 38, 3) := by decide +kernel
theorem dX7_tries_74 : decode cX7_tries 74 = .ok (.iload_n 3, 1) := by decide +kernel
theorem dX7_tries_75 : decode cX7_tries 75 = .ok (.iload 5, 2) := by decide +kernel
theorem dX7_tries_77 : decode cX7_tries 77 = .ok (.iadd, 1) := by decide +kernel
theorem dX7_tries_78 : decode cX7_tries 78 = .ok (.iaload, 1) := by decide +kernel
theorem dX7_tries_79 : decode cX7_tries 79 = .ok (.iload_n 2, 1) := by decide +kernel
theorem dX7_tries_80 : decode cX7_tries 80 = .ok (.invokestatic 144, 3) := by decide +kernel
theorem dX7_tries_83 : decode cX7_tries 83 = .ok (.istore 4, 2) := by decide +kernel
theorem dX7_tries_85 : decode cX7_tries 85 = .ok (.iinc 5 1, 3) := by decide +kernel
theorem dX7_tries_88 : decode cX7_tries 88 = .ok (.goto (-34), 3) := by decide +kernel
theorem dX7_tries_91 : decode cX7_tries 91 = .ok (.iload 4, 2) := by decide +kernel
theorem dX7_tries_93 : decode cX7_tries 93 = .ok (.ifCond .eq 14, 3) := by decide +kernel
theorem dX7_tries_96 : decode cX7_tries 96 = .ok (.aload_n 0, 1) := by decide +kernel
theorem dX7_tries_97 : decode cX7_tries 97 = .ok (.dup, 1) := by decide +kernel
theorem dX7_tries_98 : decode cX7_tries 98 = .ok (.getfield 148, 3) := by decide +kernel
theorem dX7_tries_101 : decode cX7_tries 101 = .ok (.iconst 1, 1) := by decide +kernel
theorem dX7_tries_102 : decode cX7_tries 102 = .ok (.iadd, 1) := by decide +kernel
theorem dX7_tries_103 : decode cX7_tries 103 = .ok (.putfield 148, 3) := by decide +kernel
theorem dX7_tries_106 : decode cX7_tries 106 = .ok (.return_, 1) := by decide +kernel
theorem dX7_tries_107 : decode cX7_tries 107 = .ok (.iconst 0, 1) := by decide +kernel
theorem dX7_tries_108 : decode cX7_tries 108 = .ok (.istore 5, 2) := by decide +kernel
theorem dX7_tries_110 : decode cX7_tries 110 = .ok (.iconst 0, 1) := by decide +kernel
theorem dX7_tries_111 : decode cX7_tries 111 = .ok (.istore 6, 2) := by decide +kernel
theorem dX7_tries_113 : decode cX7_tries 113 = .ok (.iload 6, 2) := by decide +kernel
theorem dX7_tries_115 : decode cX7_tries 115 = .ok (.aload_n 0, 1) := by decide +kernel
theorem dX7_tries_116 : decode cX7_tries 116 = .ok (.getfield 41, 3) := by decide +kernel
theorem dX7_tries_119 : decode cX7_tries 119 = .ok (.iload_n 1, 1) := by decide +kernel
theorem dX7_tries_120 : decode cX7_tries 120 = .ok (.iaload, 1) := by decide +kernel
theorem dX7_tries_121 : decode cX7_tries 121 = .ok (.if_icmp .ge 46, 3) := by decide +kernel
theorem dX7_tries_124 : decode cX7_tries 124 = .ok (.iload_n 2, 1) := by decide +kernel
theorem dX7_tries_125 : decode cX7_tries 125 = .ok (.aload_n 0, 1) := by decide +kernel
theorem dX7_tries_126 : decode cX7_tries 126 = .ok (.getfield 38, 3) := by decide +kernel
theorem dX7_tries_129 : decode cX7_tries 129 = .ok (.iload_n 3, 1) := by decide +kernel
theorem dX7_tries_130 : decode cX7_tries 130 = .ok (.iload 6, 2) := by decide +kernel
theorem dX7_tries_132 : decode cX7_tries 132 = .ok (.iadd, 1) := by decide +kernel
theorem dX7_tries_133 : decode cX7_tries 133 = .ok (.iaload, 1) := by decide +kernel
theorem dX7_tries_134 : decode cX7_tries 134 = .ok (.invokestatic 144, 3) := by decide +kernel
theorem dX7_tries_137 : decode cX7_tries 137 = .ok (.ifCond .ne 24, 3) := by decide +kernel
theorem dX7_tries_140 : decode cX7_tries 140 = .ok (.aload_n 0, 1) := by decide +kernel
theorem dX7_tries_141 : decode cX7_tries 141 = .ok (.getfield 38, 3) := by decide +kernel
theorem dX7_tries_144 : decode cX7_tries 144 = .ok (.iload_n 3, 1) := by decide +kernel
theorem dX7_tries_145 : decode cX7_tries 145 = .ok (.iload 5, 2) := by decide +kernel
theorem dX7_tries_147 : decode cX7_tries 147 = .ok (.iadd, 1) := by decide +kernel
theorem dX7_tries_148 : decode cX7_tries 148 = .ok (.aload_n 0, 1) := by decide +kernel
theorem dX7_tries_149 : decode cX7_tries 149 = .ok (.getfield 38, 3) := by decide +kernel
theorem dX7_tries_152 : decode cX7_tries 152 = .ok (.iload_n 3, 1) := by decide +kernel
theorem dX7_tries_153 : decode cX7_tries 153 = .ok (.iload 6, 2) := by decide +kernel
theorem dX7_tries_155 : decode cX7_tries 155 = .ok (.iadd, 1) := by decide +kernel
theorem dX7_tries_156 : decode cX7_tries 156 = .ok (.iaload, 1) := by decide +kernel
theorem dX7_tries_157 : decode cX7_tries 157 = .ok (.iastore, 1) := by decide +kernel
theorem dX7_tries_158 : decode cX7_tries 158 = .ok (.iinc 5 1, 3) := by decide +kernel
theorem dX7_tries_161 : decode cX7_tries 161 = .ok (.iinc 6 1, 3) := by decide +kernel
theorem dX7_tries_164 : decode cX7_tries 164 = .ok (.goto (-51), 3) := by decide +kernel
theorem dX7_tries_167 : decode cX7_tries 167 = .ok (.aload_n 0, 1) := by decide +kernel
theorem dX7_tries_168 : decode cX7_tries 168 = .ok (.dup, 1) := by decide +kernel
theorem dX7_tries_169 : decode cX7_tries 169 = .ok (.getfield 148, 3) := by decide +kernel
theorem dX7_tries_172 : decode cX7_tries 172 = .ok (.aload_n 0, 1) := by decide +kernel
theorem dX7_tries_173 : decode cX7_tries 173 = .ok (.getfield 41, 3) := by decide +kernel
theorem dX7_tries_176 : decode cX7_tries 176 = .ok (.iload_n 1, 1) := by decide +kernel
theorem dX7_tries_177 : decode cX7_tries 177 = .ok (.iaload, 1) := by decide +kernel
theorem dX7_tries_178 : decode cX7_tries 178 = .ok (.iload 5, 2) := by decide +kernel
theorem dX7_tries_180 : decode cX7_tries 180 = .ok (.isub, 1) := by decide +kernel
theorem dX7_tries_181 : decode cX7_tries 181 = .ok (.iadd, 1) := by decide +kernel
theorem dX7_tries_182 : decode cX7_tries 182 = .ok (.putfield 148, 3) := by decide +kernel
theorem dX7_tries_185 : decode cX7_tries 185 = .ok (.aload_n 0, 1) := by decide +kernel
theorem dX7_tries_186 : decode cX7_tries 186 = .ok (.getfield 38, 3) := by decide +kernel
theorem dX7_tries_189 : decode cX7_tries 189 = .ok (.iload_n 3, 1) := by decide +kernel
theorem dX7_tries_190 : decode cX7_tries 190 = .ok (.iload 5, 2) := by decide +kernel
theorem dX7_tries_192 : decode cX7_tries 192 = .ok (.iadd, 1) := by decide +kernel
theorem dX7_tries_193 : decode cX7_tries 193 = .ok (.iload_n 2, 1) := by decide +kernel
theorem dX7_tries_194 : decode cX7_tries 194 = .ok (.iastore, 1) := by decide +kernel
theorem dX7_tries_195 : decode cX7_tries 195 = .ok (.aload_n 0, 1) := by decide +kernel
theorem dX7_tries_196 : decode cX7_tries 196 = .ok (.getfield 41, 3) := by decide +kernel
theorem dX7_tries_199 : decode cX7_tries 199 = .ok (.iload_n 1, 1) := by decide +kernel
theorem dX7_tries_200 : decode cX7_tries 200 = .ok (.iload 5, 2) := by decide +kernel
theorem dX7_tries_202 : decode cX7_tries 202 = .ok (.iconst 1, 1) := by decide +kernel
theorem dX7_tries_203 : decode cX7_tries 203 = .ok (.iadd, 1) := by decide +kernel
theorem dX7_tries_204 : decode cX7_tries 204 = .ok (.iastore, 1) := by decide +kernel
theorem dX7_tries_205 : decode cX7_tries 205 = .ok (.return_, 1) := by decide +kernel
theorem dX7_triesBoth_0 : decode cX7_triesBoth 0 = .ok (.iload_n 1, 1) := by decide +kernel
theorem dX7_triesBoth_1 : decode cX7_triesBoth 1 = .ok (.iconst 1, 1) := by decide +kernel
theorem dX7_triesBoth_2 : decode cX7_triesBoth 2 = .ok (.iadd, 1) := by decide +kernel
theorem dX7_triesBoth_3 : decode cX7_triesBoth 3 = .ok (.istore_n 2, 1) := by decide +kernel
theorem dX7_triesBoth_4 : decode cX7_triesBoth 4 = .ok (.aload_n 0, 1) := by decide +kernel
theorem dX7_triesBoth_5 : decode cX7_triesBoth 5 = .ok (.getfield 32, 3) := by decide +kernel
theorem dX7_triesBoth_8 : decode cX7_triesBoth 8 = .ok (.iload_n 1, 1) := by decide +kernel
theorem dX7_triesBoth_9 : decode cX7_triesBoth 9 = .ok (.iaload, 1) := by decide +kernel
theorem dX7_triesBoth_10 : decode cX7_triesBoth 10 = .ok (.istore_n 3, 1) := by decide +kernel
theorem dX7_triesBoth_11 : decode cX7_triesBoth 11 = .ok (.iconst 0, 1) := by decide +kernel
theorem dX7_triesBoth_12 : decode cX7_triesBoth 12 = .ok (.istore 4, 2) := by decide +kernel
theorem dX7_triesBoth_14 : decode cX7_triesBoth 14 = .ok (.iload 4, 2) := by decide +kernel
theorem dX7_triesBoth_16 : decode cX7_triesBoth 16 = .ok (.aload_n 0, 1) := by decide +kernel
theorem dX7_triesBoth_17 : decode cX7_triesBoth 17 = .ok (.getfield 41, 3) := by decide +kernel
theorem dX7_triesBoth_20 : decode cX7_triesBoth 20 = .ok (.iload_n 2, 1) := by decide +kernel
theorem dX7_triesBoth_21 : decode cX7_triesBoth 21 = .ok (.iaload, 1) := by decide +kernel
theorem dX7_triesBoth_22 : decode cX7_triesBoth 22 = .ok (.if_icmp .ge 67, 3) := by decide +kernel
theorem dX7_triesBoth_25 : decode cX7_triesBoth 25 = .ok (.iconst 0, 1) := by decide +kernel
theorem dX7_triesBoth_26 : decode cX7_triesBoth 26 = .ok (.istore 5, 2) := by decide +kernel
theorem dX7_triesBoth_28 : decode cX7_triesBoth 28 = .ok (.iload 5, 2) := by decide +kernel
theorem dX7_triesBoth_30 : decode cX7_triesBoth 30 = .ok (.aload_n 0, 1) := by decide +kernel
theorem dX7_triesBoth_31 : decode cX7_triesBoth 31 = .ok (.getfield 41, 3) := by decide +kernel
theorem dX7_triesBoth_34 : decode cX7_triesBoth 34 = .ok (.iload_n 3, 1) := by decide +kernel
theorem dX7_triesBoth_35 : decode cX7_triesBoth 35 = .ok (.iaload, 1) := by decide +kernel
theorem dX7_triesBoth_36 : decode cX7_triesBoth 36 = .ok (.if_icmp .ge 47, 3) := by decide +kernel
theorem dX7_triesBoth_39 : decode cX7_triesBoth 39 = .ok (.aload_n 0, 1) := by decide +kernel
theorem dX7_triesBoth_40 : decode cX7_triesBoth 40 = .ok (.iload_n 1, 1) := by decide +kernel
theorem dX7_triesBoth_41 : decode cX7_triesBoth 41 = .ok (.aload_n 0, 1) := by decide +kernel
theorem dX7_triesBoth_42 : decode cX7_triesBoth 42 = .ok (.getfield 17, 3) := by decide +kernel
theorem dX7_triesBoth_45 : decode cX7_triesBoth 45 = .ok (.iload_n 1, 1) := by decide +kernel
theorem dX7_triesBoth_46 : decode cX7_triesBoth 46 = .ok (.iaload, 1) := by decide +kernel
theorem dX7_triesBoth_47 : decode cX7_triesBoth 47 = .ok (.aload_n 0, 1) := by decide +kernel
theorem dX7_triesBoth_48 : decode cX7_triesBoth 48 = .ok (.getfield 38, 3) := by decide +kernel
theorem dX7_triesBoth_51 : decode cX7_triesBoth 51 = .ok (.bipush 64, 2) := by decide +kernel
theorem dX7_triesBoth_53 : decode cX7_triesBoth 53 = .ok (.iload_n 2, 1) := by decide +kernel
theorem dX7_triesBoth_54 : decode cX7_triesBoth 54 = .ok (.imul, 1) := by decide +kernel
theorem dX7_triesBoth_55 : decode cX7_triesBoth 55 = .ok (.iload 4, 2) := by decide +kernel
theorem dX7_triesBoth_57 : decode cX7_triesBoth 57 = .ok (.iadd, 1) := by decide +kernel
theorem dX7_triesBoth_58 : decode cX7_triesBoth 58 = .ok (.iaload, 1) := by decide +kernel
theorem dX7_triesBoth_59 : decode cX7_triesBoth 59 = .ok (.aload_n 0, 1) := by decide +kernel
theorem dX7_triesBoth_60 : decode cX7_triesBoth 60 = .ok (.getfield 38, 3) := by decide +kernel
theorem dX7_triesBoth_63 : decode cX7_triesBoth 63 = .ok (.bipush 64, 2) := by decide +kernel
theorem dX7_triesBoth_65 : decode cX7_triesBoth 65 = .ok (.iload_n 3, 1) := by decide +kernel
theorem dX7_triesBoth_66 : decode cX7_triesBoth 66 = .ok (.imul, 1) := by decide +kernel
theorem dX7_triesBoth_67 : decode cX7_triesBoth 67 = .ok (.iload 5, 2) := by decide +kernel
theorem dX7_triesBoth_69 : decode cX7_triesBoth 69 = .ok (.iadd, 1) := by decide +kernel
theorem dX7_triesBoth_70 : decode cX7_triesBoth 70 = .ok (.iaload, 1) := by decide +kernel
theorem dX7_triesBoth_71 : decode cX7_triesBoth 71 = .ok (.invokestatic 151, 3) := by decide +kernel
theorem dX7_triesBoth_74 : decode cX7_triesBoth 74 = .ok (.invokevirtual 155, 3) := by decide +kernel
theorem dX7_triesBoth_77 : decode cX7_triesBoth 77 = .ok (.iinc 5 1, 3) := by decide +kernel
theorem dX7_triesBoth_80 : decode cX7_triesBoth 80 = .ok (.goto (-52), 3) := by decide +kernel
theorem dX7_triesBoth_83 : decode cX7_triesBoth 83 = .ok (.iinc 4 1, 3) := by decide +kernel
theorem dX7_triesBoth_86 : decode cX7_triesBoth 86 = .ok (.goto (-72), 3) := by decide +kernel
theorem dX7_triesBoth_89 : decode cX7_triesBoth 89 = .ok (.return_, 1) := by decide +kernel
theorem dX7_triesChoice_0 : decode cX7_triesChoice 0 = .ok (.iconst 1, 1) := by decide +kernel
theorem dX7_triesChoice_1 : decode cX7_triesChoice 1 = .ok (.aload_n 0, 1) := by decide +kernel
theorem dX7_triesChoice_2 : decode cX7_triesChoice 2 = .ok (.getfield 20, 3) := by decide +kernel
theorem dX7_triesChoice_5 : decode cX7_triesChoice 5 = .ok (.iload_n 1, 1) := by decide +kernel
theorem dX7_triesChoice_6 : decode cX7_triesChoice 6 = .ok (.iaload, 1) := by decide +kernel
theorem dX7_triesChoice_7 : decode cX7_triesChoice 7 = .ok (.ishl, 1) := by decide +kernel
theorem dX7_triesChoice_8 : decode cX7_triesChoice 8 = .ok (.istore_n 2, 1) := by decide +kernel
theorem dX7_triesChoice_9 : decode cX7_triesChoice 9 = .ok (.iconst 0, 1) := by decide +kernel
theorem dX7_triesChoice_10 : decode cX7_triesChoice 10 = .ok (.istore_n 3, 1) := by decide +kernel
theorem dX7_triesChoice_11 : decode cX7_triesChoice 11 = .ok (.iload_n 3, 1) := by decide +kernel
theorem dX7_triesChoice_12 : decode cX7_triesChoice 12 = .ok (.aload_n 0, 1) := by decide +kernel
theorem dX7_triesChoice_13 : decode cX7_triesChoice 13 = .ok (.getfield 41, 3) := by decide +kernel
theorem dX7_triesChoice_16 : decode cX7_triesChoice 16 = .ok (.iload_n 1, 1) := by decide +kernel
theorem dX7_triesChoice_17 : decode cX7_triesChoice 17 = .ok (.iconst 1, 1) := by decide +kernel
theorem dX7_triesChoice_18 : decode cX7_triesChoice 18 = .ok (.iadd, 1) := by decide +kernel
theorem dX7_triesChoice_19 : decode cX7_triesChoice 19 = .ok (.iaload, 1) := by decide +kernel
theorem dX7_triesChoice_20 : decode cX7_triesChoice 20 = .ok (.if_icmp .ge 27, 3) := by decide +kernel
theorem dX7_triesChoice_23 : decode cX7_triesChoice 23 = .ok (.aload_n 0, 1) := by decide +kernel
theorem dX7_triesChoice_24 : decode cX7_triesChoice 24 = .ok (.iload_n 1, 1) := by decide +kernel
theorem dX7_triesChoice_25 : decode cX7_triesChoice 25 = .ok (.aload_n 0, 1) := by decide +kernel
theorem dX7_triesChoice_26 : decode cX7_triesChoice 26 = .ok (.getfield 38, 3) := by decide +kernel
theorem dX7_triesChoice_29 : decode cX7_triesChoice 29 = .ok (.bipush 64, 2) := by decide +kernel
theorem dX7_triesChoice_31 : decode cX7_triesChoice 31 = .ok (.iload_n 1, 1) := by decide +kernel
theorem dX7_triesChoice_32 : decode cX7_triesChoice 32 = .ok (.iconst 1, 1) := by decide +kernel
theorem dX7_triesChoice_33 : decode cX7_triesChoice 33 = .ok (.iadd, 1) := by decide +kernel
theorem dX7_triesChoice_34 : decode cX7_triesChoice 34 = .ok (.imul, 1) := by decide +kernel
theorem dX7_triesChoice_35 : decode cX7_triesChoice 35 = .ok (.iload_n 3, 1) := by decide +kernel
theorem dX7_triesChoice_36 : decode cX7_triesChoice 36 = .ok (.iadd, 1) := by decide +kernel
theorem dX7_triesChoice_37 : decode cX7_triesChoice 37 = .ok (.iaload, 1) := by decide +kernel
theorem dX7_triesChoice_38 : decode cX7_triesChoice 38 = .ok (.invokevirtual 155, 3) := by decide +kernel
theorem dX7_triesChoice_41 : decode cX7_triesChoice 41 = .ok (.iinc 3 1, 3) := by decide +kernel
theorem dX7_triesChoice_44 : decode cX7_triesChoice 44 = .ok (.goto (-33), 3) := by decide +kernel
theorem dX7_triesChoice_47 : decode cX7_triesChoice 47 = .ok (.iconst 0, 1) := by decide +kernel
theorem dX7_triesChoice_48 : decode cX7_triesChoice 48 = .ok (.istore_n 3, 1) := by decide +kernel
theorem dX7_triesChoice_49 : decode cX7_triesChoice 49 = .ok (.iload_n 3, 1) := by decide +kernel
theorem dX7_triesChoice_50 : decode cX7_triesChoice 50 = .ok (.aload_n 0, 1) := by decide +kernel
theorem dX7_triesChoice_51 : decode cX7_triesChoice 51 = .ok (.getfield 41, 3) := by decide +kernel
theorem dX7_triesChoice_54 : decode cX7_triesChoice 54 = .ok (.aload_n 0, 1) := by decide +kernel
theorem dX7_triesChoice_55 : decode cX7_triesChoice 55 = .ok (.getfield 32, 3) := by decide +kernel
theorem dX7_triesChoice_58 : decode cX7_triesChoice 58 = .ok (.iload_n 1, 1) := by decide +kernel
theorem dX7_triesChoice_59 : decode cX7_triesChoice 59 = .ok (.iaload, 1) := by decide +kernel
theorem dX7_triesChoice_60 : decode cX7_triesChoice 60 = .ok (.iaload, 1) := by decide +kernel
theorem dX7_triesChoice_61 : decode cX7_triesChoice 61 = .ok (.if_icmp .ge 35, 3) := by decide +kernel
theorem dX7_triesChoice_64 : decode cX7_triesChoice 64 = .ok (.aload_n 0, 1) := by decide +kernel
theorem dX7_triesChoice_65 : decode cX7_triesChoice 65 = .ok (.iload_n 1, 1) := by decide +kernel
theorem dX7_triesChoice_66 : decode cX7_triesChoice 66 = .ok (.aload_n 0, 1) := by decide +kernel
theorem dX7_triesChoice_67 : decode cX7_triesChoice 67 = .ok (.getfield 38, 3) := by decide +kernel
theorem dX7_triesChoice_70 : decode cX7_triesChoice 70 = .ok (.bipush 64, 2) := by decide +kernel
theorem dX7_triesChoice_72 : decode cX7_triesChoice 72 = .ok (.aload_n 0, 1) := by decide +kernel
theorem dX7_triesChoice_73 : decode cX7_triesChoice 73 = .ok (.getfield 32, 3) := by decide +kernel
theorem dX7_triesChoice_76 : decode cX7_triesChoice 76 = .ok (.iload_n 1, 1) := by decide +kernel
theorem dX7_triesChoice_77 : decode cX7_triesChoice 77 = .ok (.iaload, 1) := by decide +kernel
theorem dX7_triesChoice_78 : decode cX7_triesChoice 78 = .ok (.imul, 1) := by decide +kernel
theorem dX7_triesChoice_79 : decode cX7_triesChoice 79 = .ok (.iload_n 3, 1) := by decide +kernel
theorem dX7_triesChoice_80 : decode cX7_triesChoice 80 = .ok (.iadd, 1) := by decide +kernel
theorem dX7_triesChoice_81 : decode cX7_triesChoice 81 = .ok (.iaload, 1) := by decide +kernel
theorem dX7_triesChoice_82 : decode cX7_triesChoice 82 = .ok (.iload_n 2, 1) := by decide +kernel
theorem dX7_triesChoice_83 : decode cX7_triesChoice 83 = .ok (.bipush 24, 2) := by decide +kernel
theorem dX7_triesChoice_85 : decode cX7_triesChoice 85 = .ok (.ishl, 1) := by decide +kernel
theorem dX7_triesChoice_86 : decode cX7_triesChoice 86 = .ok (.ior, 1) := by decide +kernel
theorem dX7_triesChoice_87 : decode cX7_triesChoice 87 = .ok (.invokevirtual 155, 3) := by decide +kernel
theorem dX7_triesChoice_90 : decode cX7_triesChoice 90 = .ok (.iinc 3 1, 3) := by decide +kernel
theorem dX7_triesChoice_93 : decode cX7_triesChoice 93 = .ok (.goto (-44), 3) := by decide +kernel
theorem dX7_triesChoice_96 : decode cX7_triesChoice 96 = .ok (.return_, 1) := by decide +kernel
theorem dX7_findsFronts_0 : decode cX7_findsFronts 0 = .ok (.aload_n 0, 1) := by decide +kernel
theorem dX7_findsFronts_1 : decode cX7_findsFronts 1 = .ok (.iload_n 1, 1) := by decide +kernel
theorem dX7_findsFronts_2 : decode cX7_findsFronts 2 = .ok (.putfield 141, 3) := by decide +kernel
theorem dX7_findsFronts_5 : decode cX7_findsFronts 5 = .ok (.aload_n 0, 1) := by decide +kernel
theorem dX7_findsFronts_6 : decode cX7_findsFronts 6 = .ok (.iconst 0, 1) := by decide +kernel
theorem dX7_findsFronts_7 : decode cX7_findsFronts 7 = .ok (.putfield 138, 3) := by decide +kernel
theorem dX7_findsFronts_10 : decode cX7_findsFronts 10 = .ok (.aload_n 0, 1) := by decide +kernel
end
section
theorem dX7_findsFronts_11 : decode cX7_findsFronts 11 = .ok (.iconst 0, 1) := by decide +kernel
theorem dX7_findsFronts_12 : decode cX7_findsFronts 12 = .ok (.putfield 148, 3) := by decide +kernel
theorem dX7_findsFronts_15 : decode cX7_findsFronts 15 = .ok (.aload_n 0, 1) := by decide +kernel
theorem dX7_findsFronts_16 : decode cX7_findsFronts 16 = .ok (.getfield 93, 3) := by decide +kernel
theorem dX7_findsFronts_19 : decode cX7_findsFronts 19 = .ok (.iconst 1, 1) := by decide +kernel
theorem dX7_findsFronts_20 : decode cX7_findsFronts 20 = .ok (.isub, 1) := by decide +kernel
theorem dX7_findsFronts_21 : decode cX7_findsFronts 21 = .ok (.istore_n 2, 1) := by decide +kernel
theorem dX7_findsFronts_22 : decode cX7_findsFronts 22 = .ok (.iload_n 2, 1) := by decide +kernel
theorem dX7_findsFronts_23 : decode cX7_findsFronts 23 = .ok (.ifCond .lt 149, 3) := by decide +kernel
theorem dX7_findsFronts_26 : decode cX7_findsFronts 26 = .ok (.aload_n 0, 1) := by decide +kernel
theorem dX7_findsFronts_27 : decode cX7_findsFronts 27 = .ok (.getfield 41, 3) := by decide +kernel
theorem dX7_findsFronts_30 : decode cX7_findsFronts 30 = .ok (.iload_n 2, 1) := by decide +kernel
theorem dX7_findsFronts_31 : decode cX7_findsFronts 31 = .ok (.iconst 0, 1) := by decide +kernel
theorem dX7_findsFronts_32 : decode cX7_findsFronts 32 = .ok (.iastore, 1) := by decide +kernel
theorem dX7_findsFronts_33 : decode cX7_findsFronts 33 = .ok (.aload_n 0, 1) := by decide +kernel
theorem dX7_findsFronts_34 : decode cX7_findsFronts 34 = .ok (.getfield 17, 3) := by decide +kernel
theorem dX7_findsFronts_37 : decode cX7_findsFronts 37 = .ok (.iload_n 2, 1) := by decide +kernel
theorem dX7_findsFronts_38 : decode cX7_findsFronts 38 = .ok (.iaload, 1) := by decide +kernel
theorem dX7_findsFronts_39 : decode cX7_findsFronts 39 = .ok (.ifCond .ne 28, 3) := by decide +kernel
theorem dX7_findsFronts_42 : decode cX7_findsFronts 42 = .ok (.aload_n 0, 1) := by decide +kernel
theorem dX7_findsFronts_43 : decode cX7_findsFronts 43 = .ok (.iload_n 2, 1) := by decide +kernel
theorem dX7_findsFronts_44 : decode cX7_findsFronts 44 = .ok (.iconst 1, 1) := by decide +kernel
theorem dX7_findsFronts_45 : decode cX7_findsFronts 45 = .ok (.aload_n 0, 1) := by decide +kernel
theorem dX7_findsFronts_46 : decode cX7_findsFronts 46 = .ok (.getfield 20, 3) := by decide +kernel
theorem dX7_findsFronts_49 : decode cX7_findsFronts 49 = .ok (.iload_n 2, 1) := by decide +kernel
theorem dX7_findsFronts_50 : decode cX7_findsFronts 50 = .ok (.iaload, 1) := by decide +kernel
theorem dX7_findsFronts_51 : decode cX7_findsFronts 51 = .ok (.aload_n 0, 1) := by decide +kernel
theorem dX7_findsFronts_52 : decode cX7_findsFronts 52 = .ok (.getfield 20, 3) := by decide +kernel
theorem dX7_findsFronts_55 : decode cX7_findsFronts 55 = .ok (.iload_n 2, 1) := by decide +kernel
theorem dX7_findsFronts_56 : decode cX7_findsFronts 56 = .ok (.iaload, 1) := by decide +kernel
theorem dX7_findsFronts_57 : decode cX7_findsFronts 57 = .ok (.iconst 0, 1) := by decide +kernel
theorem dX7_findsFronts_58 : decode cX7_findsFronts 58 = .ok (.invokestatic 134, 3) := by decide +kernel
theorem dX7_findsFronts_61 : decode cX7_findsFronts 61 = .ok (.invokevirtual 155, 3) := by decide +kernel
theorem dX7_findsFronts_64 : decode cX7_findsFronts 64 = .ok (.goto 102, 3) := by decide +kernel
theorem dX7_findsFronts_67 : decode cX7_findsFronts 67 = .ok (.aload_n 0, 1) := by decide +kernel
theorem dX7_findsFronts_68 : decode cX7_findsFronts 68 = .ok (.getfield 17, 3) := by decide +kernel
theorem dX7_findsFronts_71 : decode cX7_findsFronts 71 = .ok (.iload_n 2, 1) := by decide +kernel
theorem dX7_findsFronts_72 : decode cX7_findsFronts 72 = .ok (.iaload, 1) := by decide +kernel
theorem dX7_findsFronts_73 : decode cX7_findsFronts 73 = .ok (.iconst 3, 1) := by decide +kernel
theorem dX7_findsFronts_74 : decode cX7_findsFronts 74 = .ok (.if_icmp .ne 11, 3) := by decide +kernel
theorem dX7_findsFronts_77 : decode cX7_findsFronts 77 = .ok (.aload_n 0, 1) := by decide +kernel
theorem dX7_findsFronts_78 : decode cX7_findsFronts 78 = .ok (.iload_n 2, 1) := by decide +kernel
theorem dX7_findsFronts_79 : decode cX7_findsFronts 79 = .ok (.invokevirtual 159, 3) := by decide +kernel
theorem dX7_findsFronts_82 : decode cX7_findsFronts 82 = .ok (.goto 84, 3) := by decide +kernel
theorem dX7_findsFronts_85 : decode cX7_findsFronts 85 = .ok (.aload_n 0, 1) := by decide +kernel
theorem dX7_findsFronts_86 : decode cX7_findsFronts 86 = .ok (.getfield 17, 3) := by decide +kernel
theorem dX7_findsFronts_89 : decode cX7_findsFronts 89 = .ok (.iload_n 2, 1) := by decide +kernel
theorem dX7_findsFronts_90 : decode cX7_findsFronts 90 = .ok (.iaload, 1) := by decide +kernel
theorem dX7_findsFronts_91 : decode cX7_findsFronts 91 = .ok (.invokestatic 102, 3) := by decide +kernel
theorem dX7_findsFronts_94 : decode cX7_findsFronts 94 = .ok (.ifCond .eq 11, 3) := by decide +kernel
theorem dX7_findsFronts_97 : decode cX7_findsFronts 97 = .ok (.aload_n 0, 1) := by decide +kernel
theorem dX7_findsFronts_98 : decode cX7_findsFronts 98 = .ok (.iload_n 2, 1) := by decide +kernel
theorem dX7_findsFronts_99 : decode cX7_findsFronts 99 = .ok (.invokevirtual 163, 3) := by decide +kernel
theorem dX7_findsFronts_102 : decode cX7_findsFronts 102 = .ok (.goto 64, 3) := by decide +kernel
theorem dX7_findsFronts_105 : decode cX7_findsFronts 105 = .ok (.iconst 0, 1) := by decide +kernel
theorem dX7_findsFronts_106 : decode cX7_findsFronts 106 = .ok (.istore_n 3, 1) := by decide +kernel
theorem dX7_findsFronts_107 : decode cX7_findsFronts 107 = .ok (.iload_n 3, 1) := by decide +kernel
theorem dX7_findsFronts_108 : decode cX7_findsFronts 108 = .ok (.aload_n 0, 1) := by decide +kernel
theorem dX7_findsFronts_109 : decode cX7_findsFronts 109 = .ok (.getfield 41, 3) := by decide +kernel
theorem dX7_findsFronts_112 : decode cX7_findsFronts 112 = .ok (.iload_n 2, 1) := by decide +kernel
theorem dX7_findsFronts_113 : decode cX7_findsFronts 113 = .ok (.iconst 1, 1) := by decide +kernel
theorem dX7_findsFronts_114 : decode cX7_findsFronts 114 = .ok (.iadd, 1) := by decide +kernel
theorem dX7_findsFronts_115 : decode cX7_findsFronts 115 = .ok (.iaload, 1) := by decide +kernel
theorem dX7_findsFronts_116 : decode cX7_findsFronts 116 = .ok (.if_icmp .ge 50, 3) := by decide +kernel
theorem dX7_findsFronts_119 : decode cX7_findsFronts 119 = .ok (.aload_n 0, 1) := by decide +kernel
theorem dX7_findsFronts_120 : decode cX7_findsFronts 120 = .ok (.iload_n 2, 1) := by decide +kernel
theorem dX7_findsFronts_121 : decode cX7_findsFronts 121 = .ok (.aload_n 0, 1) := by decide +kernel
theorem dX7_findsFronts_122 : decode cX7_findsFronts 122 = .ok (.getfield 38, 3) := by decide +kernel
theorem dX7_findsFronts_125 : decode cX7_findsFronts 125 = .ok (.bipush 64, 2) := by decide +kernel
theorem dX7_findsFronts_127 : decode cX7_findsFronts 127 = .ok (.iload_n 2, 1) := by decide +kernel
theorem dX7_findsFronts_128 : decode cX7_findsFronts 128 = .ok (.iconst 1, 1) := by decide +kernel
theorem dX7_findsFronts_129 : decode cX7_findsFronts 129 = .ok (.iadd, 1) := by decide +kernel
theorem dX7_findsFronts_130 : decode cX7_findsFronts 130 = .ok (.imul, 1) := by decide +kernel
theorem dX7_findsFronts_131 : decode cX7_findsFronts 131 = .ok (.iload_n 3, 1) := by decide +kernel
theorem dX7_findsFronts_132 : decode cX7_findsFronts 132 = .ok (.iadd, 1) := by decide +kernel
theorem dX7_findsFronts_133 : decode cX7_findsFronts 133 = .ok (.iaload, 1) := by decide +kernel
theorem dX7_findsFronts_134 : decode cX7_findsFronts 134 = .ok (.aload_n 0, 1) := by decide +kernel
theorem dX7_findsFronts_135 : decode cX7_findsFronts 135 = .ok (.getfield 17, 3) := by decide +kernel
theorem dX7_findsFronts_138 : decode cX7_findsFronts 138 = .ok (.iload_n 2, 1) := by decide +kernel
theorem dX7_findsFronts_139 : decode cX7_findsFronts 139 = .ok (.iaload, 1) := by decide +kernel
theorem dX7_findsFronts_140 : decode cX7_findsFronts 140 = .ok (.iconst 4, 1) := by decide +kernel
theorem dX7_findsFronts_141 : decode cX7_findsFronts 141 = .ok (.if_icmp .ne 12, 3) := by decide +kernel
theorem dX7_findsFronts_144 : decode cX7_findsFronts 144 = .ok (.aload_n 0, 1) := by decide +kernel
theorem dX7_findsFronts_145 : decode cX7_findsFronts 145 = .ok (.getfield 20, 3) := by decide +kernel
theorem dX7_findsFronts_148 : decode cX7_findsFronts 148 = .ok (.iload_n 2, 1) := by decide +kernel
theorem dX7_findsFronts_149 : decode cX7_findsFronts 149 = .ok (.iaload, 1) := by decide +kernel
theorem dX7_findsFronts_150 : decode cX7_findsFronts 150 = .ok (.goto 4, 3) := by decide +kernel
theorem dX7_findsFronts_153 : decode cX7_findsFronts 153 = .ok (.iconst 0, 1) := by decide +kernel
theorem dX7_findsFronts_154 : decode cX7_findsFronts 154 = .ok (.invokestatic 166, 3) := by decide +kernel
theorem dX7_findsFronts_157 : decode cX7_findsFronts 157 = .ok (.invokevirtual 155, 3) := by decide +kernel
theorem dX7_findsFronts_160 : decode cX7_findsFronts 160 = .ok (.iinc 3 1, 3) := by decide +kernel
theorem dX7_findsFronts_163 : decode cX7_findsFronts 163 = .ok (.goto (-56), 3) := by decide +kernel
theorem dX7_findsFronts_166 : decode cX7_findsFronts 166 = .ok (.iinc 2 (-1), 3) := by decide +kernel
theorem dX7_findsFronts_169 : decode cX7_findsFronts 169 = .ok (.goto (-147), 3) := by decide +kernel
theorem dX7_findsFronts_172 : decode cX7_findsFronts 172 = .ok (.return_, 1) := by decide +kernel
theorem dX7_frontsTold_0 : decode cX7_frontsTold 0 = .ok (.aload_n 0, 1) := by decide +kernel
theorem dX7_frontsTold_1 : decode cX7_frontsTold 1 = .ok (.invokevirtual 112, 3) := by decide +kernel
theorem dX7_frontsTold_4 : decode cX7_frontsTold 4 = .ok (.aload_n 0, 1) := by decide +kernel
theorem dX7_frontsTold_5 : decode cX7_frontsTold 5 = .ok (.aload_n 0, 1) := by decide +kernel
theorem dX7_frontsTold_6 : decode cX7_frontsTold 6 = .ok (.getfield 13, 3) := by decide +kernel
theorem dX7_frontsTold_9 : decode cX7_frontsTold 9 = .ok (.invokevirtual 169, 3) := by decide +kernel
theorem dX7_frontsTold_12 : decode cX7_frontsTold 12 = .ok (.return_, 1) := by decide +kernel
theorem dX7_isPart_0 : decode cX7_isPart 0 = .ok (.aload_n 0, 1) := by decide +kernel
theorem dX7_isPart_1 : decode cX7_isPart 1 = .ok (.invokevirtual 112, 3) := by decide +kernel
theorem dX7_isPart_4 : decode cX7_isPart 4 = .ok (.iload_n 1, 1) := by decide +kernel
theorem dX7_isPart_5 : decode cX7_isPart 5 = .ok (.iconst 0, 1) := by decide +kernel
theorem dX7_isPart_6 : decode cX7_isPart 6 = .ok (.aload_n 0, 1) := by decide +kernel
theorem dX7_isPart_7 : decode cX7_isPart 7 = .ok (.getfield 93, 3) := by decide +kernel
theorem dX7_isPart_10 : decode cX7_isPart 10 = .ok (.iconst 1, 1) := by decide +kernel
theorem dX7_isPart_11 : decode cX7_isPart 11 = .ok (.isub, 1) := by decide +kernel
theorem dX7_isPart_12 : decode cX7_isPart 12 = .ok (.invokestatic 75, 3) := by decide +kernel
theorem dX7_isPart_15 : decode cX7_isPart 15 = .ok (.ireturn, 1) := by decide +kernel
theorem dX7_manyOf_0 : decode cX7_manyOf 0 = .ok (.aload_n 0, 1) := by decide +kernel
theorem dX7_manyOf_1 : decode cX7_manyOf 1 = .ok (.invokevirtual 172, 3) := by decide +kernel
theorem dX7_manyOf_4 : decode cX7_manyOf 4 = .ok (.aload_n 0, 1) := by decide +kernel
theorem dX7_manyOf_5 : decode cX7_manyOf 5 = .ok (.getfield 41, 3) := by decide +kernel
theorem dX7_manyOf_8 : decode cX7_manyOf 8 = .ok (.iload_n 1, 1) := by decide +kernel
theorem dX7_manyOf_9 : decode cX7_manyOf 9 = .ok (.iaload, 1) := by decide +kernel
theorem dX7_manyOf_10 : decode cX7_manyOf 10 = .ok (.ireturn, 1) := by decide +kernel
theorem dX7_partOf_0 : decode cX7_partOf 0 = .ok (.iload_n 2, 1) := by decide +kernel
theorem dX7_partOf_1 : decode cX7_partOf 1 = .ok (.ifCond .ne 12, 3) := by decide +kernel
theorem dX7_partOf_4 : decode cX7_partOf 4 = .ok (.aload_n 0, 1) := by decide +kernel
theorem dX7_partOf_5 : decode cX7_partOf 5 = .ok (.getfield 23, 3) := by decide +kernel
theorem dX7_partOf_8 : decode cX7_partOf 8 = .ok (.iload_n 1, 1) := by decide +kernel
theorem dX7_partOf_9 : decode cX7_partOf 9 = .ok (.iaload, 1) := by decide +kernel
theorem dX7_partOf_10 : decode cX7_partOf 10 = .ok (.goto 36, 3) := by decide +kernel
theorem dX7_partOf_13 : decode cX7_partOf 13 = .ok (.iload_n 2, 1) := by decide +kernel
theorem dX7_partOf_14 : decode cX7_partOf 14 = .ok (.iconst 1, 1) := by decide +kernel
theorem dX7_partOf_15 : decode cX7_partOf 15 = .ok (.if_icmp .ne 12, 3) := by decide +kernel
theorem dX7_partOf_18 : decode cX7_partOf 18 = .ok (.aload_n 0, 1) := by decide +kernel
theorem dX7_partOf_19 : decode cX7_partOf 19 = .ok (.getfield 26, 3) := by decide +kernel
theorem dX7_partOf_22 : decode cX7_partOf 22 = .ok (.iload_n 1, 1) := by decide +kernel
theorem dX7_partOf_23 : decode cX7_partOf 23 = .ok (.iaload, 1) := by decide +kernel
theorem dX7_partOf_24 : decode cX7_partOf 24 = .ok (.goto 22, 3) := by decide +kernel
theorem dX7_partOf_27 : decode cX7_partOf 27 = .ok (.iload_n 2, 1) := by decide +kernel
theorem dX7_partOf_28 : decode cX7_partOf 28 = .ok (.iconst 2, 1) := by decide +kernel
theorem dX7_partOf_29 : decode cX7_partOf 29 = .ok (.if_icmp .ne 11, 3) := by decide +kernel
theorem dX7_partOf_32 : decode cX7_partOf 32 = .ok (.aload_n 0, 1) := by decide +kernel
theorem dX7_partOf_33 : decode cX7_partOf 33 = .ok (.iload_n 1, 1) := by decide +kernel
theorem dX7_partOf_34 : decode cX7_partOf 34 = .ok (.invokevirtual 175, 3) := by decide +kernel
theorem dX7_partOf_37 : decode cX7_partOf 37 = .ok (.goto 9, 3) := by decide +kernel
theorem dX7_partOf_40 : decode cX7_partOf 40 = .ok (.aload_n 0, 1) := by decide +kernel
theorem dX7_partOf_41 : decode cX7_partOf 41 = .ok (.getfield 35, 3) := by decide +kernel
theorem dX7_partOf_44 : decode cX7_partOf 44 = .ok (.iload_n 1, 1) := by decide +kernel
theorem dX7_partOf_45 : decode cX7_partOf 45 = .ok (.iaload, 1) := by decide +kernel
theorem dX7_partOf_46 : decode cX7_partOf 46 = .ok (.ireturn, 1) := by decide +kernel
theorem dX7_part_0 : decode cX7_part 0 = .ok (.aload_n 0, 1) := by decide +kernel
theorem dX7_part_1 : decode cX7_part 1 = .ok (.iload_n 1, 1) := by decide +kernel
theorem dX7_part_2 : decode cX7_part 2 = .ok (.invokevirtual 178, 3) := by decide +kernel
theorem dX7_part_5 : decode cX7_part 5 = .ok (.ifCond .eq 21, 3) := by decide +kernel
theorem dX7_part_8 : decode cX7_part 8 = .ok (.iload_n 2, 1) := by decide +kernel
theorem dX7_part_9 : decode cX7_part 9 = .ok (.iconst 0, 1) := by decide +kernel
theorem dX7_part_10 : decode cX7_part 10 = .ok (.iconst 3, 1) := by decide +kernel
theorem dX7_part_11 : decode cX7_part 11 = .ok (.invokestatic 75, 3) := by decide +kernel
theorem dX7_part_14 : decode cX7_part 14 = .ok (.ifCond .eq 12, 3) := by decide +kernel
theorem dX7_part_17 : decode cX7_part 17 = .ok (.aload_n 0, 1) := by decide +kernel
theorem dX7_part_18 : decode cX7_part 18 = .ok (.iload_n 1, 1) := by decide +kernel
theorem dX7_part_19 : decode cX7_part 19 = .ok (.iload_n 2, 1) := by decide +kernel
theorem dX7_part_20 : decode cX7_part 20 = .ok (.invokevirtual 181, 3) := by decide +kernel
theorem dX7_part_23 : decode cX7_part 23 = .ok (.goto 5, 3) := by decide +kernel
theorem dX7_part_26 : decode cX7_part 26 = .ok (.bipush (-2), 2) := by decide +kernel
theorem dX7_part_28 : decode cX7_part 28 = .ok (.ireturn, 1) := by decide +kernel
theorem dX7_tellOf_0 : decode cX7_tellOf 0 = .ok (.iload_n 1, 1) := by decide +kernel
theorem dX7_tellOf_1 : decode cX7_tellOf 1 = .ok (.ifCond .ne 10, 3) := by decide +kernel
theorem dX7_tellOf_4 : decode cX7_tellOf 4 = .ok (.iload_n 0, 1) := by decide +kernel
theorem dX7_tellOf_5 : decode cX7_tellOf 5 = .ok (.invokestatic 121, 3) := by decide +kernel
theorem dX7_tellOf_8 : decode cX7_tellOf 8 = .ok (.goto 31, 3) := by decide +kernel
theorem dX7_tellOf_11 : decode cX7_tellOf 11 = .ok (.iload_n 1, 1) := by decide +kernel
theorem dX7_tellOf_12 : decode cX7_tellOf 12 = .ok (.iconst 1, 1) := by decide +kernel
theorem dX7_tellOf_13 : decode cX7_tellOf 13 = .ok (.if_icmp .ne 10, 3) := by decide +kernel
theorem dX7_tellOf_16 : decode cX7_tellOf 16 = .ok (.iload_n 0, 1) := by decide +kernel
theorem dX7_tellOf_17 : decode cX7_tellOf 17 = .ok (.invokestatic 124, 3) := by decide +kernel
theorem dX7_tellOf_20 : decode cX7_tellOf 20 = .ok (.goto 19, 3) := by decide +kernel
theorem dX7_tellOf_23 : decode cX7_tellOf 23 = .ok (.iload_n 1, 1) := by decide +kernel
theorem dX7_tellOf_24 : decode cX7_tellOf 24 = .ok (.iconst 2, 1) := by decide +kernel
theorem dX7_tellOf_25 : decode cX7_tellOf 25 = .ok (.if_icmp .ne 10, 3) := by decide +kernel
theorem dX7_tellOf_28 : decode cX7_tellOf 28 = .ok (.iload_n 0, 1) := by decide +kernel
theorem dX7_tellOf_29 : decode cX7_tellOf 29 = .ok (.invokestatic 127, 3) := by decide +kernel
theorem dX7_tellOf_32 : decode cX7_tellOf 32 = .ok (.goto 7, 3) := by decide +kernel
theorem dX7_tellOf_35 : decode cX7_tellOf 35 = .ok (.iload_n 0, 1) := by decide +kernel
theorem dX7_tellOf_36 : decode cX7_tellOf 36 = .ok (.invokestatic 118, 3) := by decide +kernel
theorem dX7_tellOf_39 : decode cX7_tellOf 39 = .ok (.ireturn, 1) := by decide +kernel
theorem dX7_frontierOf_0 : decode cX7_frontierOf 0 = .ok (.aload_n 0, 1) := by decide +kernel
theorem dX7_frontierOf_1 : decode cX7_frontierOf 1 = .ok (.invokevirtual 172, 3) := by decide +kernel
theorem dX7_frontierOf_4 : decode cX7_frontierOf 4 = .ok (.iload_n 2, 1) := by decide +kernel
theorem dX7_frontierOf_5 : decode cX7_frontierOf 5 = .ok (.aload_n 0, 1) := by decide +kernel
theorem dX7_frontierOf_6 : decode cX7_frontierOf 6 = .ok (.getfield 41, 3) := by decide +kernel
theorem dX7_frontierOf_9 : decode cX7_frontierOf 9 = .ok (.iload_n 1, 1) := by decide +kernel
theorem dX7_frontierOf_10 : decode cX7_frontierOf 10 = .ok (.iaload, 1) := by decide +kernel
theorem dX7_frontierOf_11 : decode cX7_frontierOf 11 = .ok (.if_icmp .ge 21, 3) := by decide +kernel
theorem dX7_frontierOf_14 : decode cX7_frontierOf 14 = .ok (.aload_n 0, 1) := by decide +kernel
theorem dX7_frontierOf_15 : decode cX7_frontierOf 15 = .ok (.getfield 38, 3) := by decide +kernel
theorem dX7_frontierOf_18 : decode cX7_frontierOf 18 = .ok (.bipush 64, 2) := by decide +kernel
theorem dX7_frontierOf_20 : decode cX7_frontierOf 20 = .ok (.iload_n 1, 1) := by decide +kernel
theorem dX7_frontierOf_21 : decode cX7_frontierOf 21 = .ok (.imul, 1) := by decide +kernel
theorem dX7_frontierOf_22 : decode cX7_frontierOf 22 = .ok (.iload_n 2, 1) := by decide +kernel
theorem dX7_frontierOf_23 : decode cX7_frontierOf 23 = .ok (.iadd, 1) := by decide +kernel
theorem dX7_frontierOf_24 : decode cX7_frontierOf 24 = .ok (.iaload, 1) := by decide +kernel
theorem dX7_frontierOf_25 : decode cX7_frontierOf 25 = .ok (.iload_n 3, 1) := by decide +kernel
theorem dX7_frontierOf_26 : decode cX7_frontierOf 26 = .ok (.invokestatic 184, 3) := by decide +kernel
theorem dX7_frontierOf_29 : decode cX7_frontierOf 29 = .ok (.goto 4, 3) := by decide +kernel
theorem dX7_frontierOf_32 : decode cX7_frontierOf 32 = .ok (.iconst (-1), 1) := by decide +kernel
theorem dX7_frontierOf_33 : decode cX7_frontierOf 33 = .ok (.ireturn, 1) := by decide +kernel
theorem dX7_frontier_0 : decode cX7_frontier 0 = .ok (.aload_n 0, 1) := by decide +kernel
theorem dX7_frontier_1 : decode cX7_frontier 1 = .ok (.iload_n 1, 1) := by decide +kernel
theorem dX7_frontier_2 : decode cX7_frontier 2 = .ok (.invokevirtual 178, 3) := by decide +kernel
theorem dX7_frontier_5 : decode cX7_frontier 5 = .ok (.ifCond .eq 32, 3) := by decide +kernel
theorem dX7_frontier_8 : decode cX7_frontier 8 = .ok (.iload_n 2, 1) := by decide +kernel
theorem dX7_frontier_9 : decode cX7_frontier 9 = .ok (.iconst 0, 1) := by decide +kernel
theorem dX7_frontier_10 : decode cX7_frontier 10 = .ok (.bipush 63, 2) := by decide +kernel
theorem dX7_frontier_12 : decode cX7_frontier 12 = .ok (.invokestatic 75, 3) := by decide +kernel
theorem dX7_frontier_15 : decode cX7_frontier 15 = .ok (.ifCond .eq 22, 3) := by decide +kernel
theorem dX7_frontier_18 : decode cX7_frontier 18 = .ok (.iload_n 3, 1) := by decide +kernel
theorem dX7_frontier_19 : decode cX7_frontier 19 = .ok (.iconst 0, 1) := by decide +kernel
theorem dX7_frontier_20 : decode cX7_frontier 20 = .ok (.iconst 3, 1) := by decide +kernel
theorem dX7_frontier_21 : decode cX7_frontier 21 = .ok (.invokestatic 75, 3) := by decide +kernel
theorem dX7_frontier_24 : decode cX7_frontier 24 = .ok (.ifCond .eq 13, 3) := by decide +kernel
theorem dX7_frontier_27 : decode cX7_frontier 27 = .ok (.aload_n 0, 1) := by decide +kernel
theorem dX7_frontier_28 : decode cX7_frontier 28 = .ok (.iload_n 1, 1) := by decide +kernel
theorem dX7_frontier_29 : decode cX7_frontier 29 = .ok (.iload_n 2, 1) := by decide +kernel
theorem dX7_frontier_30 : decode cX7_frontier 30 = .ok (.iload_n 3, 1) := by decide +kernel
theorem dX7_frontier_31 : decode cX7_frontier 31 = .ok (.invokevirtual 187, 3) := by decide +kernel
theorem dX7_frontier_34 : decode cX7_frontier 34 = .ok (.goto 5, 3) := by decide +kernel
theorem dX7_frontier_37 : decode cX7_frontier 37 = .ok (.bipush (-2), 2) := by decide +kernel
theorem dX7_frontier_39 : decode cX7_frontier 39 = .ok (.ireturn, 1) := by decide +kernel
theorem dX7_triedOf_0 : decode cX7_triedOf 0 = .ok (.aload_n 0, 1) := by decide +kernel
theorem dX7_triedOf_1 : decode cX7_triedOf 1 = .ok (.invokevirtual 172, 3) := by decide +kernel
theorem dX7_triedOf_4 : decode cX7_triedOf 4 = .ok (.iload_n 1, 1) := by decide +kernel
theorem dX7_triedOf_5 : decode cX7_triedOf 5 = .ok (.ifCond .ne 10, 3) := by decide +kernel
theorem dX7_triedOf_8 : decode cX7_triedOf 8 = .ok (.aload_n 0, 1) := by decide +kernel
theorem dX7_triedOf_9 : decode cX7_triedOf 9 = .ok (.getfield 138, 3) := by decide +kernel
theorem dX7_triedOf_12 : decode cX7_triedOf 12 = .ok (.goto 7, 3) := by decide +kernel
theorem dX7_triedOf_15 : decode cX7_triedOf 15 = .ok (.aload_n 0, 1) := by decide +kernel
theorem dX7_triedOf_16 : decode cX7_triedOf 16 = .ok (.getfield 148, 3) := by decide +kernel
theorem dX7_triedOf_19 : decode cX7_triedOf 19 = .ok (.ireturn, 1) := by decide +kernel
theorem dX7_tried_0 : decode cX7_tried 0 = .ok (.iload_n 1, 1) := by decide +kernel
theorem dX7_tried_1 : decode cX7_tried 1 = .ok (.iconst 0, 1) := by decide +kernel
theorem dX7_tried_2 : decode cX7_tried 2 = .ok (.iconst 1, 1) := by decide +kernel
theorem dX7_tried_3 : decode cX7_tried 3 = .ok (.invokestatic 75, 3) := by decide +kernel
theorem dX7_tried_6 : decode cX7_tried 6 = .ok (.ifCond .eq 11, 3) := by decide +kernel
theorem dX7_tried_9 : decode cX7_tried 9 = .ok (.aload_n 0, 1) := by decide +kernel
theorem dX7_tried_10 : decode cX7_tried 10 = .ok (.iload_n 1, 1) := by decide +kernel
theorem dX7_tried_11 : decode cX7_tried 11 = .ok (.invokevirtual 190, 3) := by decide +kernel
theorem dX7_tried_14 : decode cX7_tried 14 = .ok (.goto 5, 3) := by decide +kernel
theorem dX7_tried_17 : decode cX7_tried 17 = .ok (.bipush (-2), 2) := by decide +kernel
theorem dX7_tried_19 : decode cX7_tried 19 = .ok (.ireturn, 1) := by decide +kernel
theorem dX7_isAhead_0 : decode cX7_isAhead 0 = .ok (.aload_n 0, 1) := by decide +kernel
theorem dX7_isAhead_1 : decode cX7_isAhead 1 = .ok (.getfield 193, 3) := by decide +kernel
theorem dX7_isAhead_4 : decode cX7_isAhead 4 = .ok (.ifCond .eq 10, 3) := by decide +kernel
theorem dX7_isAhead_7 : decode cX7_isAhead 7 = .ok (.iload_n 1, 1) := by decide +kernel
theorem dX7_isAhead_8 : decode cX7_isAhead 8 = .ok (.invokestatic 127, 3) := by decide +kernel
theorem dX7_isAhead_11 : decode cX7_isAhead 11 = .ok (.goto 7, 3) := by decide +kernel
theorem dX7_isAhead_14 : decode cX7_isAhead 14 = .ok (.iload_n 1, 1) := by decide +kernel
theorem dX7_isAhead_15 : decode cX7_isAhead 15 = .ok (.invokestatic 121, 3) := by decide +kernel
theorem dX7_isAhead_18 : decode cX7_isAhead 18 = .ok (.istore_n 3, 1) := by decide +kernel
theorem dX7_isAhead_19 : decode cX7_isAhead 19 = .ok (.aload_n 0, 1) := by decide +kernel
theorem dX7_isAhead_20 : decode cX7_isAhead 20 = .ok (.getfield 193, 3) := by decide +kernel
theorem dX7_isAhead_23 : decode cX7_isAhead 23 = .ok (.ifCond .eq 10, 3) := by decide +kernel
theorem dX7_isAhead_26 : decode cX7_isAhead 26 = .ok (.iload_n 2, 1) := by decide +kernel
theorem dX7_isAhead_27 : decode cX7_isAhead 27 = .ok (.invokestatic 127, 3) := by decide +kernel
theorem dX7_isAhead_30 : decode cX7_isAhead 30 = .ok (.goto 7, 3) := by decide +kernel
theorem dX7_isAhead_33 : decode cX7_isAhead 33 = .ok (.iload_n 2, 1) := by decide +kernel
theorem dX7_isAhead_34 : decode cX7_isAhead 34 = .ok (.invokestatic 121, 3) := by decide +kernel
theorem dX7_isAhead_37 : decode cX7_isAhead 37 = .ok (.istore 4, 2) := by decide +kernel
theorem dX7_isAhead_39 : decode cX7_isAhead 39 = .ok (.aload_n 0, 1) := by decide +kernel
theorem dX7_isAhead_40 : decode cX7_isAhead 40 = .ok (.getfield 193, 3) := by decide +kernel
theorem dX7_isAhead_43 : decode cX7_isAhead 43 = .ok (.ifCond .eq 10, 3) := by decide +kernel
theorem dX7_isAhead_46 : decode cX7_isAhead 46 = .ok (.iload_n 1, 1) := by decide +kernel
theorem dX7_isAhead_47 : decode cX7_isAhead 47 = .ok (.invokestatic 121, 3) := by decide +kernel
theorem dX7_isAhead_50 : decode cX7_isAhead 50 = .ok (.goto 7, 3) := by decide +kernel
theorem dX7_isAhead_53 : decode cX7_isAhead 53 = .ok (.iload_n 1, 1) := by decide +kernel
theorem dX7_isAhead_54 : decode cX7_isAhead 54 = .ok (.invokestatic 127, 3) := by decide +kernel
theorem dX7_isAhead_57 : decode cX7_isAhead 57 = .ok (.istore 5, 2) := by decide +kernel
theorem dX7_isAhead_59 : decode cX7_isAhead 59 = .ok (.aload_n 0, 1) := by decide +kernel
theorem dX7_isAhead_60 : decode cX7_isAhead 60 = .ok (.getfield 193, 3) := by decide +kernel
theorem dX7_isAhead_63 : decode cX7_isAhead 63 = .ok (.ifCond .eq 10, 3) := by decide +kernel
theorem dX7_isAhead_66 : decode cX7_isAhead 66 = .ok (.iload_n 2, 1) := by decide +kernel
theorem dX7_isAhead_67 : decode cX7_isAhead 67 = .ok (.invokestatic 121, 3) := by decide +kernel
theorem dX7_isAhead_70 : decode cX7_isAhead 70 = .ok (.goto 7, 3) := by decide +kernel
theorem dX7_isAhead_73 : decode cX7_isAhead 73 = .ok (.iload_n 2, 1) := by decide +kernel
theorem dX7_isAhead_74 : decode cX7_isAhead 74 = .ok (.invokestatic 127, 3) := by decide +kernel
theorem dX7_isAhead_77 : decode cX7_isAhead 77 = .ok (.istore 6, 2) := by decide +kernel
theorem dX7_isAhead_79 : decode cX7_isAhead 79 = .ok (.iload_n 3, 1) := by decide +kernel
theorem dX7_isAhead_80 : decode cX7_isAhead 80 = .ok (.iload 4, 2) := by decide +kernel
theorem dX7_isAhead_82 : decode cX7_isAhead 82 = .ok (.if_icmp .eq 17, 3) := by decide +kernel
theorem dX7_isAhead_85 : decode cX7_isAhead 85 = .ok (.iload_n 3, 1) := by decide +kernel
theorem dX7_isAhead_86 : decode cX7_isAhead 86 = .ok (.iload 4, 2) := by decide +kernel
theorem dX7_isAhead_88 : decode cX7_isAhead 88 = .ok (.if_icmp .ge 7, 3) := by decide +kernel
theorem dX7_isAhead_91 : decode cX7_isAhead 91 = .ok (.iconst 1, 1) := by decide +kernel
theorem dX7_isAhead_92 : decode cX7_isAhead 92 = .ok (.goto 45, 3) := by decide +kernel
theorem dX7_isAhead_95 : decode cX7_isAhead 95 = .ok (.iconst 0, 1) := by decide +kernel
theorem dX7_isAhead_96 : decode cX7_isAhead 96 = .ok (.goto 41, 3) := by decide +kernel
theorem dX7_isAhead_99 : decode cX7_isAhead 99 = .ok (.iload 5, 2) := by decide +kernel
theorem dX7_isAhead_101 : decode cX7_isAhead 101 = .ok (.iload 6, 2) := by decide +kernel
theorem dX7_isAhead_103 : decode cX7_isAhead 103 = .ok (.if_icmp .eq 18, 3) := by decide +kernel
theorem dX7_isAhead_106 : decode cX7_isAhead 106 = .ok (.iload 5, 2) := by decide +kernel
theorem dX7_isAhead_108 : decode cX7_isAhead 108 = .ok (.iload 6, 2) := by decide +kernel
theorem dX7_isAhead_110 : decode cX7_isAhead 110 = .ok (.if_icmp .ge 7, 3) := by decide +kernel
theorem dX7_isAhead_113 : decode cX7_isAhead 113 = .ok (.iconst 1, 1) := by decide +kernel
theorem dX7_isAhead_114 : decode cX7_isAhead 114 = .ok (.goto 23, 3) := by decide +kernel
theorem dX7_isAhead_117 : decode cX7_isAhead 117 = .ok (.iconst 0, 1) := by decide +kernel
theorem dX7_isAhead_118 : decode cX7_isAhead 118 = .ok (.goto 19, 3) := by decide +kernel
theorem dX7_isAhead_121 : decode cX7_isAhead 121 = .ok (.iload_n 1, 1) := by decide +kernel
theorem dX7_isAhead_122 : decode cX7_isAhead 122 = .ok (.invokestatic 124, 3) := by decide +kernel
theorem dX7_isAhead_125 : decode cX7_isAhead 125 = .ok (.iload_n 2, 1) := by decide +kernel
theorem dX7_isAhead_126 : decode cX7_isAhead 126 = .ok (.invokestatic 124, 3) := by decide +kernel
theorem dX7_isAhead_129 : decode cX7_isAhead 129 = .ok (.if_icmp .ge 7, 3) := by decide +kernel
theorem dX7_isAhead_132 : decode cX7_isAhead 132 = .ok (.iconst 1, 1) := by decide +kernel
theorem dX7_isAhead_133 : decode cX7_isAhead 133 = .ok (.goto 4, 3) := by decide +kernel
theorem dX7_isAhead_136 : decode cX7_isAhead 136 = .ok (.iconst 0, 1) := by decide +kernel
theorem dX7_isAhead_137 : decode cX7_isAhead 137 = .ok (.ireturn, 1) := by decide +kernel
theorem dX7_findsBest_0 : decode cX7_findsBest 0 = .ok (.aload_n 0, 1) := by decide +kernel
theorem dX7_findsBest_1 : decode cX7_findsBest 1 = .ok (.invokevirtual 172, 3) := by decide +kernel
theorem dX7_findsBest_4 : decode cX7_findsBest 4 = .ok (.aload_n 0, 1) := by decide +kernel
theorem dX7_findsBest_5 : decode cX7_findsBest 5 = .ok (.iconst (-1), 1) := by decide +kernel
theorem dX7_findsBest_6 : decode cX7_findsBest 6 = .ok (.putfield 197, 3) := by decide +kernel
theorem dX7_findsBest_9 : decode cX7_findsBest 9 = .ok (.aload_n 0, 1) := by decide +kernel
theorem dX7_findsBest_10 : decode cX7_findsBest 10 = .ok (.aload_n 0, 1) := by decide +kernel
theorem dX7_findsBest_11 : decode cX7_findsBest 11 = .ok (.getfield 93, 3) := by decide +kernel
theorem dX7_findsBest_14 : decode cX7_findsBest 14 = .ok (.ifCond .le 16, 3) := by decide +kernel
theorem dX7_findsBest_17 : decode cX7_findsBest 17 = .ok (.aload_n 0, 1) := by decide +kernel
theorem dX7_findsBest_18 : decode cX7_findsBest 18 = .ok (.getfield 41, 3) := by decide +kernel
theorem dX7_findsBest_21 : decode cX7_findsBest 21 = .ok (.iconst 0, 1) := by decide +kernel
theorem dX7_findsBest_22 : decode cX7_findsBest 22 = .ok (.iaload, 1) := by decide +kernel
theorem dX7_findsBest_23 : decode cX7_findsBest 23 = .ok (.ifCond .ne 7, 3) := by decide +kernel
theorem dX7_findsBest_26 : decode cX7_findsBest 26 = .ok (.iconst 1, 1) := by decide +kernel
theorem dX7_findsBest_27 : decode cX7_findsBest 27 = .ok (.goto 4, 3) := by decide +kernel
theorem dX7_findsBest_30 : decode cX7_findsBest 30 = .ok (.iconst 0, 1) := by decide +kernel
theorem dX7_findsBest_31 : decode cX7_findsBest 31 = .ok (.putfield 193, 3) := by decide +kernel
theorem dX7_findsBest_34 : decode cX7_findsBest 34 = .ok (.aload_n 0, 1) := by decide +kernel
theorem dX7_findsBest_35 : decode cX7_findsBest 35 = .ok (.getfield 193, 3) := by decide +kernel
theorem dX7_findsBest_38 : decode cX7_findsBest 38 = .ok (.ifCond .eq 10, 3) := by decide +kernel
theorem dX7_findsBest_41 : decode cX7_findsBest 41 = .ok (.aload_n 0, 1) := by decide +kernel
theorem dX7_findsBest_42 : decode cX7_findsBest 42 = .ok (.sipush 500, 3) := by decide +kernel
theorem dX7_findsBest_45 : decode cX7_findsBest 45 = .ok (.invokevirtual 169, 3) := by decide +kernel
theorem dX7_findsBest_48 : decode cX7_findsBest 48 = .ok (.iconst 0, 1) := by decide +kernel
theorem dX7_findsBest_49 : decode cX7_findsBest 49 = .ok (.istore_n 1, 1) := by decide +kernel
theorem dX7_findsBest_50 : decode cX7_findsBest 50 = .ok (.iload_n 1, 1) := by decide +kernel
theorem dX7_findsBest_51 : decode cX7_findsBest 51 = .ok (.aload_n 0, 1) := by decide +kernel
theorem dX7_findsBest_52 : decode cX7_findsBest 52 = .ok (.getfield 41, 3) := by decide +kernel
theorem dX7_findsBest_55 : decode cX7_findsBest 55 = .ok (.iconst 0, 1) := by decide +kernel
theorem dX7_findsBest_56 : decode cX7_findsBest 56 = .ok (.iaload, 1) := by decide +kernel
theorem dX7_findsBest_57 : decode cX7_findsBest 57 = .ok (.if_icmp .ge 58, 3) := by decide +kernel
theorem dX7_findsBest_60 : decode cX7_findsBest 60 = .ok (.aload_n 0, 1) := by decide +kernel
theorem dX7_findsBest_61 : decode cX7_findsBest 61 = .ok (.getfield 93, 3) := by decide +kernel
theorem dX7_findsBest_64 : decode cX7_findsBest 64 = .ok (.ifCond .le 51, 3) := by decide +kernel
theorem dX7_findsBest_67 : decode cX7_findsBest 67 = .ok (.aload_n 0, 1) := by decide +kernel
theorem dX7_findsBest_68 : decode cX7_findsBest 68 = .ok (.aload_n 0, 1) := by decide +kernel
theorem dX7_findsBest_69 : decode cX7_findsBest 69 = .ok (.getfield 197, 3) := by decide +kernel
theorem dX7_findsBest_72 : decode cX7_findsBest 72 = .ok (.iconst (-1), 1) := by decide +kernel
theorem dX7_findsBest_73 : decode cX7_findsBest 73 = .ok (.if_icmp .eq 20, 3) := by decide +kernel
theorem dX7_findsBest_76 : decode cX7_findsBest 76 = .ok (.aload_n 0, 1) := by decide +kernel
theorem dX7_findsBest_77 : decode cX7_findsBest 77 = .ok (.aload_n 0, 1) := by decide +kernel
theorem dX7_findsBest_78 : decode cX7_findsBest 78 = .ok (.getfield 38, 3) := by decide +kernel
theorem dX7_findsBest_81 : decode cX7_findsBest 81 = .ok (.iload_n 1, 1) := by decide +kernel
theorem dX7_findsBest_82 : decode cX7_findsBest 82 = .ok (.iaload, 1) := by decide +kernel
theorem dX7_findsBest_83 : decode cX7_findsBest 83 = .ok (.aload_n 0, 1) := by decide +kernel
theorem dX7_findsBest_84 : decode cX7_findsBest 84 = .ok (.getfield 197, 3) := by decide +kernel
theorem dX7_findsBest_87 : decode cX7_findsBest 87 = .ok (.invokevirtual 200, 3) := by decide +kernel
theorem dX7_findsBest_90 : decode cX7_findsBest 90 = .ok (.ifCond .eq 12, 3) := by decide +kernel
theorem dX7_findsBest_93 : decode cX7_findsBest 93 = .ok (.aload_n 0, 1) := by decide +kernel
theorem dX7_findsBest_94 : decode cX7_findsBest 94 = .ok (.getfield 38, 3) := by decide +kernel
theorem dX7_findsBest_97 : decode cX7_findsBest 97 = .ok (.iload_n 1, 1) := by decide +kernel
theorem dX7_findsBest_98 : decode cX7_findsBest 98 = .ok (.iaload, 1) := by decide +kernel
theorem dX7_findsBest_99 : decode cX7_findsBest 99 = .ok (.goto 7, 3) := by decide +kernel
theorem dX7_findsBest_102 : decode cX7_findsBest 102 = .ok (.aload_n 0, 1) := by decide +kernel
theorem dX7_findsBest_103 : decode cX7_findsBest 103 = .ok (.getfield 197, 3) := by decide +kernel
theorem dX7_findsBest_106 : decode cX7_findsBest 106 = .ok (.putfield 197, 3) := by decide +kernel
theorem dX7_findsBest_109 : decode cX7_findsBest 109 = .ok (.iinc 1 1, 3) := by decide +kernel
theorem dX7_findsBest_112 : decode cX7_findsBest 112 = .ok (.goto (-62), 3) := by decide +kernel
theorem dX7_findsBest_115 : decode cX7_findsBest 115 = .ok (.return_, 1) := by decide +kernel
theorem dX7_bestOf_0 : decode cX7_bestOf 0 = .ok (.aload_n 0, 1) := by decide +kernel
theorem dX7_bestOf_1 : decode cX7_bestOf 1 = .ok (.invokevirtual 203, 3) := by decide +kernel
theorem dX7_bestOf_4 : decode cX7_bestOf 4 = .ok (.aload_n 0, 1) := by decide +kernel
theorem dX7_bestOf_5 : decode cX7_bestOf 5 = .ok (.getfield 197, 3) := by decide +kernel
theorem dX7_bestOf_8 : decode cX7_bestOf 8 = .ok (.iconst (-1), 1) := by decide +kernel
theorem dX7_bestOf_9 : decode cX7_bestOf 9 = .ok (.if_icmp .ne 7, 3) := by decide +kernel
theorem dX7_bestOf_12 : decode cX7_bestOf 12 = .ok (.iconst (-1), 1) := by decide +kernel
theorem dX7_bestOf_13 : decode cX7_bestOf 13 = .ok (.goto 31, 3) := by decide +kernel
theorem dX7_bestOf_16 : decode cX7_bestOf 16 = .ok (.iload_n 1, 1) := by decide +kernel
theorem dX7_bestOf_17 : decode cX7_bestOf 17 = .ok (.iconst 4, 1) := by decide +kernel
theorem dX7_bestOf_18 : decode cX7_bestOf 18 = .ok (.if_icmp .ne 18, 3) := by decide +kernel
theorem dX7_bestOf_21 : decode cX7_bestOf 21 = .ok (.aload_n 0, 1) := by decide +kernel
theorem dX7_bestOf_22 : decode cX7_bestOf 22 = .ok (.getfield 193, 3) := by decide +kernel
theorem dX7_bestOf_25 : decode cX7_bestOf 25 = .ok (.ifCond .eq 7, 3) := by decide +kernel
theorem dX7_bestOf_28 : decode cX7_bestOf 28 = .ok (.iconst 1, 1) := by decide +kernel
theorem dX7_bestOf_29 : decode cX7_bestOf 29 = .ok (.goto 15, 3) := by decide +kernel
theorem dX7_bestOf_32 : decode cX7_bestOf 32 = .ok (.iconst 0, 1) := by decide +kernel
theorem dX7_bestOf_33 : decode cX7_bestOf 33 = .ok (.goto 11, 3) := by decide +kernel
theorem dX7_bestOf_36 : decode cX7_bestOf 36 = .ok (.aload_n 0, 1) := by decide +kernel
theorem dX7_bestOf_37 : decode cX7_bestOf 37 = .ok (.getfield 197, 3) := by decide +kernel
theorem dX7_bestOf_40 : decode cX7_bestOf 40 = .ok (.iload_n 1, 1) := by decide +kernel
theorem dX7_bestOf_41 : decode cX7_bestOf 41 = .ok (.invokestatic 184, 3) := by decide +kernel
theorem dX7_bestOf_44 : decode cX7_bestOf 44 = .ok (.ireturn, 1) := by decide +kernel
theorem dX7_best_0 : decode cX7_best 0 = .ok (.iload_n 1, 1) := by decide +kernel
theorem dX7_best_1 : decode cX7_best 1 = .ok (.iconst 0, 1) := by decide +kernel
theorem dX7_best_2 : decode cX7_best 2 = .ok (.iconst 4, 1) := by decide +kernel
theorem dX7_best_3 : decode cX7_best 3 = .ok (.invokestatic 75, 3) := by decide +kernel
theorem dX7_best_6 : decode cX7_best 6 = .ok (.ifCond .eq 11, 3) := by decide +kernel
theorem dX7_best_9 : decode cX7_best 9 = .ok (.aload_n 0, 1) := by decide +kernel
theorem dX7_best_10 : decode cX7_best 10 = .ok (.iload_n 1, 1) := by decide +kernel
theorem dX7_best_11 : decode cX7_best 11 = .ok (.invokevirtual 206, 3) := by decide +kernel
theorem dX7_best_14 : decode cX7_best 14 = .ok (.goto 5, 3) := by decide +kernel
theorem dX7_best_17 : decode cX7_best 17 = .ok (.bipush (-2), 2) := by decide +kernel
theorem dX7_best_19 : decode cX7_best 19 = .ok (.ireturn, 1) := by decide +kernel
theorem dX7_shapeBy_0 : decode cX7_shapeBy 0 = .ok (.aload_n 0, 1) := by decide +kernel
theorem dX7_shapeBy_1 : decode cX7_shapeBy 1 = .ok (.getfield 17, 3) := by decide +kernel
theorem dX7_shapeBy_4 : decode cX7_shapeBy 4 = .ok (.iload_n 1, 1) := by decide +kernel
theorem dX7_shapeBy_5 : decode cX7_shapeBy 5 = .ok (.iaload, 1) := by decide +kernel
theorem dX7_shapeBy_6 : decode cX7_shapeBy 6 = .ok (.istore_n 3, 1) := by decide +kernel
theorem dX7_shapeBy_7 : decode cX7_shapeBy 7 = .ok (.iload_n 3, 1) := by decide +kernel
theorem dX7_shapeBy_8 : decode cX7_shapeBy 8 = .ok (.ifCond .ne 7, 3) := by decide +kernel
theorem dX7_shapeBy_11 : decode cX7_shapeBy 11 = .ok (.iconst (-1), 1) := by decide +kernel
theorem dX7_shapeBy_12 : decode cX7_shapeBy 12 = .ok (.goto 11, 3) := by decide +kernel
theorem dX7_shapeBy_15 : decode cX7_shapeBy 15 = .ok (.aload_n 0, 1) := by decide +kernel
theorem dX7_shapeBy_16 : decode cX7_shapeBy 16 = .ok (.getfield 44, 3) := by decide +kernel
theorem dX7_shapeBy_19 : decode cX7_shapeBy 19 = .ok (.iload_n 1, 1) := by decide +kernel
theorem dX7_shapeBy_20 : decode cX7_shapeBy 20 = .ok (.iconst 1, 1) := by decide +kernel
theorem dX7_shapeBy_21 : decode cX7_shapeBy 21 = .ok (.iadd, 1) := by decide +kernel
theorem dX7_shapeBy_22 : decode cX7_shapeBy 22 = .ok (.iaload, 1) := by decide +kernel
theorem dX7_shapeBy_23 : decode cX7_shapeBy 23 = .ok (.istore 4, 2) := by decide +kernel
theorem dX7_shapeBy_25 : decode cX7_shapeBy 25 = .ok (.iload_n 3, 1) := by decide +kernel
theorem dX7_shapeBy_26 : decode cX7_shapeBy 26 = .ok (.invokestatic 102, 3) := by decide +kernel
theorem dX7_shapeBy_29 : decode cX7_shapeBy 29 = .ok (.ifCond .eq 17, 3) := by decide +kernel
theorem dX7_shapeBy_32 : decode cX7_shapeBy 32 = .ok (.aload_n 0, 1) := by decide +kernel
theorem dX7_shapeBy_33 : decode cX7_shapeBy 33 = .ok (.getfield 44, 3) := by decide +kernel
theorem dX7_shapeBy_36 : decode cX7_shapeBy 36 = .ok (.aload_n 0, 1) := by decide +kernel
theorem dX7_shapeBy_37 : decode cX7_shapeBy 37 = .ok (.getfield 32, 3) := by decide +kernel
theorem dX7_shapeBy_40 : decode cX7_shapeBy 40 = .ok (.iload_n 1, 1) := by decide +kernel
theorem dX7_shapeBy_41 : decode cX7_shapeBy 41 = .ok (.iaload, 1) := by decide +kernel
theorem dX7_shapeBy_42 : decode cX7_shapeBy 42 = .ok (.iaload, 1) := by decide +kernel
theorem dX7_shapeBy_43 : decode cX7_shapeBy 43 = .ok (.goto 4, 3) := by decide +kernel
theorem dX7_shapeBy_46 : decode cX7_shapeBy 46 = .ok (.iconst (-1), 1) := by decide +kernel
theorem dX7_shapeBy_47 : decode cX7_shapeBy 47 = .ok (.istore 5, 2) := by decide +kernel
theorem dX7_shapeBy_49 : decode cX7_shapeBy 49 = .ok (.iload_n 3, 1) := by decide +kernel
theorem dX7_shapeBy_50 : decode cX7_shapeBy 50 = .ok (.tableswitch 121 0 5 #[38, 121, 121, 56, 77, 99], 38) := by decide +kernel
theorem dX7_shapeBy_88 : decode cX7_shapeBy 88 = .ok (.iconst 1, 1) := by decide +kernel
theorem dX7_shapeBy_89 : decode cX7_shapeBy 89 = .ok (.aload_n 0, 1) := by decide +kernel
theorem dX7_shapeBy_90 : decode cX7_shapeBy 90 = .ok (.getfield 20, 3) := by decide +kernel
theorem dX7_shapeBy_93 : decode cX7_shapeBy 93 = .ok (.iload_n 1, 1) := by decide +kernel
theorem dX7_shapeBy_94 : decode cX7_shapeBy 94 = .ok (.iaload, 1) := by decide +kernel
theorem dX7_shapeBy_95 : decode cX7_shapeBy 95 = .ok (.aload_n 0, 1) := by decide +kernel
theorem dX7_shapeBy_96 : decode cX7_shapeBy 96 = .ok (.getfield 20, 3) := by decide +kernel
theorem dX7_shapeBy_99 : decode cX7_shapeBy 99 = .ok (.iload_n 1, 1) := by decide +kernel
theorem dX7_shapeBy_100 : decode cX7_shapeBy 100 = .ok (.iaload, 1) := by decide +kernel
theorem dX7_shapeBy_101 : decode cX7_shapeBy 101 = .ok (.iconst 0, 1) := by decide +kernel
theorem dX7_shapeBy_102 : decode cX7_shapeBy 102 = .ok (.invokestatic 134, 3) := by decide +kernel
theorem dX7_shapeBy_105 : decode cX7_shapeBy 105 = .ok (.ireturn, 1) := by decide +kernel
theorem dX7_shapeBy_106 : decode cX7_shapeBy 106 = .ok (.iload_n 2, 1) := by decide +kernel
theorem dX7_shapeBy_107 : decode cX7_shapeBy 107 = .ok (.aload_n 0, 1) := by decide +kernel
theorem dX7_shapeBy_108 : decode cX7_shapeBy 108 = .ok (.getfield 20, 3) := by decide +kernel
theorem dX7_shapeBy_111 : decode cX7_shapeBy 111 = .ok (.iload_n 1, 1) := by decide +kernel
theorem dX7_shapeBy_112 : decode cX7_shapeBy 112 = .ok (.iaload, 1) := by decide +kernel
theorem dX7_shapeBy_113 : decode cX7_shapeBy 113 = .ok (.invokestatic 209, 3) := by decide +kernel
theorem dX7_shapeBy_116 : decode cX7_shapeBy 116 = .ok (.ifCond .eq 8, 3) := by decide +kernel
theorem dX7_shapeBy_119 : decode cX7_shapeBy 119 = .ok (.iload 5, 2) := by decide +kernel
theorem dX7_shapeBy_121 : decode cX7_shapeBy 121 = .ok (.goto 5, 3) := by decide +kernel
theorem dX7_shapeBy_124 : decode cX7_shapeBy 124 = .ok (.iload 4, 2) := by decide +kernel
theorem dX7_shapeBy_126 : decode cX7_shapeBy 126 = .ok (.ireturn, 1) := by decide +kernel
theorem dX7_shapeBy_127 : decode cX7_shapeBy 127 = .ok (.iload 4, 2) := by decide +kernel
theorem dX7_shapeBy_129 : decode cX7_shapeBy 129 = .ok (.iconst (-1), 1) := by decide +kernel
theorem dX7_shapeBy_130 : decode cX7_shapeBy 130 = .ok (.if_icmp .ne 7, 3) := by decide +kernel
theorem dX7_shapeBy_133 : decode cX7_shapeBy 133 = .ok (.iconst (-1), 1) := by decide +kernel
theorem dX7_shapeBy_134 : decode cX7_shapeBy 134 = .ok (.goto 14, 3) := by decide +kernel
theorem dX7_shapeBy_137 : decode cX7_shapeBy 137 = .ok (.iload 4, 2) := by decide +kernel
theorem dX7_shapeBy_139 : decode cX7_shapeBy 139 = .ok (.aload_n 0, 1) := by decide +kernel
theorem dX7_shapeBy_140 : decode cX7_shapeBy 140 = .ok (.getfield 20, 3) := by decide +kernel
theorem dX7_shapeBy_143 : decode cX7_shapeBy 143 = .ok (.iload_n 1, 1) := by decide +kernel
theorem dX7_shapeBy_144 : decode cX7_shapeBy 144 = .ok (.iaload, 1) := by decide +kernel
theorem dX7_shapeBy_145 : decode cX7_shapeBy 145 = .ok (.invokestatic 166, 3) := by decide +kernel
theorem dX7_shapeBy_148 : decode cX7_shapeBy 148 = .ok (.ireturn, 1) := by decide +kernel
theorem dX7_shapeBy_149 : decode cX7_shapeBy 149 = .ok (.iload 4, 2) := by decide +kernel
theorem dX7_shapeBy_151 : decode cX7_shapeBy 151 = .ok (.iconst (-1), 1) := by decide +kernel
theorem dX7_shapeBy_152 : decode cX7_shapeBy 152 = .ok (.if_icmp .eq 12, 3) := by decide +kernel
theorem dX7_shapeBy_155 : decode cX7_shapeBy 155 = .ok (.iload 4, 2) := by decide +kernel
theorem dX7_shapeBy_157 : decode cX7_shapeBy 157 = .ok (.invokestatic 121, 3) := by decide +kernel
theorem dX7_shapeBy_160 : decode cX7_shapeBy 160 = .ok (.iconst 1, 1) := by decide +kernel
theorem dX7_shapeBy_161 : decode cX7_shapeBy 161 = .ok (.if_icmp .le 7, 3) := by decide +kernel
theorem dX7_shapeBy_164 : decode cX7_shapeBy 164 = .ok (.iconst (-1), 1) := by decide +kernel
theorem dX7_shapeBy_165 : decode cX7_shapeBy 165 = .ok (.goto 5, 3) := by decide +kernel
theorem dX7_shapeBy_168 : decode cX7_shapeBy 168 = .ok (.iload 4, 2) := by decide +kernel
theorem dX7_shapeBy_170 : decode cX7_shapeBy 170 = .ok (.ireturn, 1) := by decide +kernel
theorem dX7_shapeBy_171 : decode cX7_shapeBy 171 = .ok (.iload 4, 2) := by decide +kernel
theorem dX7_shapeBy_173 : decode cX7_shapeBy 173 = .ok (.iconst (-1), 1) := by decide +kernel
theorem dX7_shapeBy_174 : decode cX7_shapeBy 174 = .ok (.if_icmp .eq 9, 3) := by decide +kernel
theorem dX7_shapeBy_177 : decode cX7_shapeBy 177 = .ok (.iload 5, 2) := by decide +kernel
theorem dX7_shapeBy_179 : decode cX7_shapeBy 179 = .ok (.iconst (-1), 1) := by decide +kernel
theorem dX7_shapeBy_180 : decode cX7_shapeBy 180 = .ok (.if_icmp .ne 7, 3) := by decide +kernel
theorem dX7_shapeBy_183 : decode cX7_shapeBy 183 = .ok (.iconst (-1), 1) := by decide +kernel
theorem dX7_shapeBy_184 : decode cX7_shapeBy 184 = .ok (.goto 11, 3) := by decide +kernel
theorem dX7_shapeBy_187 : decode cX7_shapeBy 187 = .ok (.iload_n 3, 1) := by decide +kernel
theorem dX7_shapeBy_188 : decode cX7_shapeBy 188 = .ok (.iload 4, 2) := by decide +kernel
theorem dX7_shapeBy_190 : decode cX7_shapeBy 190 = .ok (.iload 5, 2) := by decide +kernel
theorem dX7_shapeBy_192 : decode cX7_shapeBy 192 = .ok (.invokestatic 151, 3) := by decide +kernel
theorem dX7_shapeBy_195 : decode cX7_shapeBy 195 = .ok (.ireturn, 1) := by decide +kernel
theorem dX7_shapeOf_0 : decode cX7_shapeOf 0 = .ok (.aload_n 0, 1) := by decide +kernel
theorem dX7_shapeOf_1 : decode cX7_shapeOf 1 = .ok (.getfield 93, 3) := by decide +kernel
theorem dX7_shapeOf_4 : decode cX7_shapeOf 4 = .ok (.iconst 1, 1) := by decide +kernel
theorem dX7_shapeOf_5 : decode cX7_shapeOf 5 = .ok (.isub, 1) := by decide +kernel
theorem dX7_shapeOf_6 : decode cX7_shapeOf 6 = .ok (.istore_n 2, 1) := by decide +kernel
theorem dX7_shapeOf_7 : decode cX7_shapeOf 7 = .ok (.iload_n 2, 1) := by decide +kernel
theorem dX7_shapeOf_8 : decode cX7_shapeOf 8 = .ok (.ifCond .lt 21, 3) := by decide +kernel
theorem dX7_shapeOf_11 : decode cX7_shapeOf 11 = .ok (.aload_n 0, 1) := by decide +kernel
theorem dX7_shapeOf_12 : decode cX7_shapeOf 12 = .ok (.getfield 44, 3) := by decide +kernel
theorem dX7_shapeOf_15 : decode cX7_shapeOf 15 = .ok (.iload_n 2, 1) := by decide +kernel
theorem dX7_shapeOf_16 : decode cX7_shapeOf 16 = .ok (.aload_n 0, 1) := by decide +kernel
theorem dX7_shapeOf_17 : decode cX7_shapeOf 17 = .ok (.iload_n 2, 1) := by decide +kernel
theorem dX7_shapeOf_18 : decode cX7_shapeOf 18 = .ok (.iload_n 1, 1) := by decide +kernel
theorem dX7_shapeOf_19 : decode cX7_shapeOf 19 = .ok (.invokevirtual 212, 3) := by decide +kernel
theorem dX7_shapeOf_22 : decode cX7_shapeOf 22 = .ok (.iastore, 1) := by decide +kernel
theorem dX7_shapeOf_23 : decode cX7_shapeOf 23 = .ok (.iinc 2 (-1), 3) := by decide +kernel
theorem dX7_shapeOf_26 : decode cX7_shapeOf 26 = .ok (.goto (-19), 3) := by decide +kernel
theorem dX7_shapeOf_29 : decode cX7_shapeOf 29 = .ok (.aload_n 0, 1) := by decide +kernel
theorem dX7_shapeOf_30 : decode cX7_shapeOf 30 = .ok (.getfield 93, 3) := by decide +kernel
theorem dX7_shapeOf_33 : decode cX7_shapeOf 33 = .ok (.ifCond .ne 7, 3) := by decide +kernel
theorem dX7_shapeOf_36 : decode cX7_shapeOf 36 = .ok (.iconst (-1), 1) := by decide +kernel
theorem dX7_shapeOf_37 : decode cX7_shapeOf 37 = .ok (.goto 9, 3) := by decide +kernel
theorem dX7_shapeOf_40 : decode cX7_shapeOf 40 = .ok (.aload_n 0, 1) := by decide +kernel
theorem dX7_shapeOf_41 : decode cX7_shapeOf 41 = .ok (.getfield 44, 3) := by decide +kernel
theorem dX7_shapeOf_44 : decode cX7_shapeOf 44 = .ok (.iconst 0, 1) := by decide +kernel
theorem dX7_shapeOf_45 : decode cX7_shapeOf 45 = .ok (.iaload, 1) := by decide +kernel
theorem dX7_shapeOf_46 : decode cX7_shapeOf 46 = .ok (.ireturn, 1) := by decide +kernel
theorem dX7_findsWays_0 : decode cX7_findsWays 0 = .ok (.aload_n 0, 1) := by decide +kernel
theorem dX7_findsWays_1 : decode cX7_findsWays 1 = .ok (.invokevirtual 112, 3) := by decide +kernel
theorem dX7_findsWays_4 : decode cX7_findsWays 4 = .ok (.iconst 0, 1) := by decide +kernel
theorem dX7_findsWays_5 : decode cX7_findsWays 5 = .ok (.istore_n 1, 1) := by decide +kernel
theorem dX7_findsWays_6 : decode cX7_findsWays 6 = .ok (.iload_n 1, 1) := by decide +kernel
theorem dX7_findsWays_7 : decode cX7_findsWays 7 = .ok (.bipush 64, 2) := by decide +kernel
theorem dX7_findsWays_9 : decode cX7_findsWays 9 = .ok (.if_icmp .ge 20, 3) := by decide +kernel
theorem dX7_findsWays_12 : decode cX7_findsWays 12 = .ok (.aload_n 0, 1) := by decide +kernel
theorem dX7_findsWays_13 : decode cX7_findsWays 13 = .ok (.getfield 47, 3) := by decide +kernel
theorem dX7_findsWays_16 : decode cX7_findsWays 16 = .ok (.iload_n 1, 1) := by decide +kernel
theorem dX7_findsWays_17 : decode cX7_findsWays 17 = .ok (.aload_n 0, 1) := by decide +kernel
theorem dX7_findsWays_18 : decode cX7_findsWays 18 = .ok (.iload_n 1, 1) := by decide +kernel
theorem dX7_findsWays_19 : decode cX7_findsWays 19 = .ok (.invokevirtual 215, 3) := by decide +kernel
theorem dX7_findsWays_22 : decode cX7_findsWays 22 = .ok (.iastore, 1) := by decide +kernel
theorem dX7_findsWays_23 : decode cX7_findsWays 23 = .ok (.iinc 1 1, 3) := by decide +kernel
theorem dX7_findsWays_26 : decode cX7_findsWays 26 = .ok (.goto (-20), 3) := by decide +kernel
theorem dX7_findsWays_29 : decode cX7_findsWays 29 = .ok (.return_, 1) := by decide +kernel
theorem dX7_wayFor_0 : decode cX7_wayFor 0 = .ok (.aload_n 0, 1) := by decide +kernel
theorem dX7_wayFor_1 : decode cX7_wayFor 1 = .ok (.invokevirtual 112, 3) := by decide +kernel
theorem dX7_wayFor_4 : decode cX7_wayFor 4 = .ok (.aload_n 0, 1) := by decide +kernel
theorem dX7_wayFor_5 : decode cX7_wayFor 5 = .ok (.iload_n 1, 1) := by decide +kernel
theorem dX7_wayFor_6 : decode cX7_wayFor 6 = .ok (.invokevirtual 215, 3) := by decide +kernel
theorem dX7_wayFor_9 : decode cX7_wayFor 9 = .ok (.istore_n 3, 1) := by decide +kernel
theorem dX7_wayFor_10 : decode cX7_wayFor 10 = .ok (.iload_n 3, 1) := by decide +kernel
theorem dX7_wayFor_11 : decode cX7_wayFor 11 = .ok (.iconst (-1), 1) := by decide +kernel
theorem dX7_wayFor_12 : decode cX7_wayFor 12 = .ok (.if_icmp .ne 7, 3) := by decide +kernel
theorem dX7_wayFor_15 : decode cX7_wayFor 15 = .ok (.iconst (-1), 1) := by decide +kernel
theorem dX7_wayFor_16 : decode cX7_wayFor 16 = .ok (.goto 8, 3) := by decide +kernel
theorem dX7_wayFor_19 : decode cX7_wayFor 19 = .ok (.iload_n 3, 1) := by decide +kernel
theorem dX7_wayFor_20 : decode cX7_wayFor 20 = .ok (.iload_n 2, 1) := by decide +kernel
theorem dX7_wayFor_21 : decode cX7_wayFor 21 = .ok (.invokestatic 184, 3) := by decide +kernel
theorem dX7_wayFor_24 : decode cX7_wayFor 24 = .ok (.ireturn, 1) := by decide +kernel
theorem dX7_way_0 : decode cX7_way 0 = .ok (.iload_n 1, 1) := by decide +kernel
theorem dX7_way_1 : decode cX7_way 1 = .ok (.iconst 0, 1) := by decide +kernel
theorem dX7_way_2 : decode cX7_way 2 = .ok (.bipush 63, 2) := by decide +kernel
theorem dX7_way_4 : decode cX7_way 4 = .ok (.invokestatic 75, 3) := by decide +kernel
theorem dX7_way_7 : decode cX7_way 7 = .ok (.ifCond .eq 21, 3) := by decide +kernel
theorem dX7_way_10 : decode cX7_way 10 = .ok (.iload_n 2, 1) := by decide +kernel
theorem dX7_way_11 : decode cX7_way 11 = .ok (.iconst 0, 1) := by decide +kernel
theorem dX7_way_12 : decode cX7_way 12 = .ok (.iconst 2, 1) := by decide +kernel
theorem dX7_way_13 : decode cX7_way 13 = .ok (.invokestatic 75, 3) := by decide +kernel
theorem dX7_way_16 : decode cX7_way 16 = .ok (.ifCond .eq 12, 3) := by decide +kernel
theorem dX7_way_19 : decode cX7_way 19 = .ok (.aload_n 0, 1) := by decide +kernel
theorem dX7_way_20 : decode cX7_way 20 = .ok (.iload_n 1, 1) := by decide +kernel
theorem dX7_way_21 : decode cX7_way 21 = .ok (.iload_n 2, 1) := by decide +kernel
theorem dX7_way_22 : decode cX7_way 22 = .ok (.invokevirtual 218, 3) := by decide +kernel
theorem dX7_way_25 : decode cX7_way 25 = .ok (.goto 5, 3) := by decide +kernel
theorem dX7_way_28 : decode cX7_way 28 = .ok (.bipush (-2), 2) := by decide +kernel
theorem dX7_way_30 : decode cX7_way 30 = .ok (.ireturn, 1) := by decide +kernel
theorem dX7_sets_0 : decode cX7_sets 0 = .ok (.aload_n 0, 1) := by decide +kernel
theorem dX7_sets_1 : decode cX7_sets 1 = .ok (.invokevirtual 203, 3) := by decide +kernel
theorem dX7_sets_4 : decode cX7_sets 4 = .ok (.aload_n 0, 1) := by decide +kernel
theorem dX7_sets_5 : decode cX7_sets 5 = .ok (.aload_n 0, 1) := by decide +kernel
theorem dX7_sets_6 : decode cX7_sets 6 = .ok (.getfield 197, 3) := by decide +kernel
theorem dX7_sets_9 : decode cX7_sets 9 = .ok (.iconst (-1), 1) := by decide +kernel
theorem dX7_sets_10 : decode cX7_sets 10 = .ok (.if_icmp .ne 7, 3) := by decide +kernel
theorem dX7_sets_13 : decode cX7_sets 13 = .ok (.iconst 0, 1) := by decide +kernel
theorem dX7_sets_14 : decode cX7_sets 14 = .ok (.goto 10, 3) := by decide +kernel
theorem dX7_sets_17 : decode cX7_sets 17 = .ok (.aload_n 0, 1) := by decide +kernel
theorem dX7_sets_18 : decode cX7_sets 18 = .ok (.getfield 197, 3) := by decide +kernel
theorem dX7_sets_21 : decode cX7_sets 21 = .ok (.invokestatic 118, 3) := by decide +kernel
theorem dX7_sets_24 : decode cX7_sets 24 = .ok (.invokevirtual 215, 3) := by decide +kernel
theorem dX7_sets_27 : decode cX7_sets 27 = .ok (.pop, 1) := by decide +kernel
theorem dX7_sets_28 : decode cX7_sets 28 = .ok (.iconst 0, 1) := by decide +kernel
theorem dX7_sets_29 : decode cX7_sets 29 = .ok (.istore_n 1, 1) := by decide +kernel
theorem dX7_sets_30 : decode cX7_sets 30 = .ok (.iload_n 1, 1) := by decide +kernel
theorem dX7_sets_31 : decode cX7_sets 31 = .ok (.aload_n 0, 1) := by decide +kernel
theorem dX7_sets_32 : decode cX7_sets 32 = .ok (.getfield 93, 3) := by decide +kernel
theorem dX7_sets_35 : decode cX7_sets 35 = .ok (.if_icmp .ge 46, 3) := by decide +kernel
theorem dX7_sets_38 : decode cX7_sets 38 = .ok (.aload_n 0, 1) := by decide +kernel
theorem dX7_sets_39 : decode cX7_sets 39 = .ok (.getfield 56, 3) := by decide +kernel
theorem dX7_sets_42 : decode cX7_sets 42 = .ok (.iload_n 1, 1) := by decide +kernel
theorem dX7_sets_43 : decode cX7_sets 43 = .ok (.iload_n 1, 1) := by decide +kernel
theorem dX7_sets_44 : decode cX7_sets 44 = .ok (.ifCond .ne 15, 3) := by decide +kernel
theorem dX7_sets_47 : decode cX7_sets 47 = .ok (.aload_n 0, 1) := by decide +kernel
theorem dX7_sets_48 : decode cX7_sets 48 = .ok (.getfield 197, 3) := by decide +kernel
theorem dX7_sets_51 : decode cX7_sets 51 = .ok (.iconst (-1), 1) := by decide +kernel
theorem dX7_sets_52 : decode cX7_sets 52 = .ok (.if_icmp .eq 7, 3) := by decide +kernel
theorem dX7_sets_55 : decode cX7_sets 55 = .ok (.iconst 1, 1) := by decide +kernel
theorem dX7_sets_56 : decode cX7_sets 56 = .ok (.goto 4, 3) := by decide +kernel
theorem dX7_sets_59 : decode cX7_sets 59 = .ok (.iconst 0, 1) := by decide +kernel
theorem dX7_sets_60 : decode cX7_sets 60 = .ok (.iastore, 1) := by decide +kernel
theorem dX7_sets_61 : decode cX7_sets 61 = .ok (.aload_n 0, 1) := by decide +kernel
theorem dX7_sets_62 : decode cX7_sets 62 = .ok (.getfield 50, 3) := by decide +kernel
theorem dX7_sets_65 : decode cX7_sets 65 = .ok (.iload_n 1, 1) := by decide +kernel
theorem dX7_sets_66 : decode cX7_sets 66 = .ok (.iconst 0, 1) := by decide +kernel
theorem dX7_sets_67 : decode cX7_sets 67 = .ok (.iastore, 1) := by decide +kernel
theorem dX7_sets_68 : decode cX7_sets 68 = .ok (.aload_n 0, 1) := by decide +kernel
theorem dX7_sets_69 : decode cX7_sets 69 = .ok (.getfield 53, 3) := by decide +kernel
theorem dX7_sets_72 : decode cX7_sets 72 = .ok (.iload_n 1, 1) := by decide +kernel
theorem dX7_sets_73 : decode cX7_sets 73 = .ok (.iconst 0, 1) := by decide +kernel
theorem dX7_sets_74 : decode cX7_sets 74 = .ok (.iastore, 1) := by decide +kernel
theorem dX7_sets_75 : decode cX7_sets 75 = .ok (.iinc 1 1, 3) := by decide +kernel
theorem dX7_sets_78 : decode cX7_sets 78 = .ok (.goto (-48), 3) := by decide +kernel
theorem dX7_sets_81 : decode cX7_sets 81 = .ok (.iconst 0, 1) := by decide +kernel
theorem dX7_sets_82 : decode cX7_sets 82 = .ok (.istore_n 1, 1) := by decide +kernel
theorem dX7_sets_83 : decode cX7_sets 83 = .ok (.iload_n 1, 1) := by decide +kernel
theorem dX7_sets_84 : decode cX7_sets 84 = .ok (.aload_n 0, 1) := by decide +kernel
theorem dX7_sets_85 : decode cX7_sets 85 = .ok (.getfield 93, 3) := by decide +kernel
theorem dX7_sets_88 : decode cX7_sets 88 = .ok (.if_icmp .ge 33, 3) := by decide +kernel
theorem dX7_sets_91 : decode cX7_sets 91 = .ok (.aload_n 0, 1) := by decide +kernel
theorem dX7_sets_92 : decode cX7_sets 92 = .ok (.getfield 56, 3) := by decide +kernel
theorem dX7_sets_95 : decode cX7_sets 95 = .ok (.iload_n 1, 1) := by decide +kernel
theorem dX7_sets_96 : decode cX7_sets 96 = .ok (.iaload, 1) := by decide +kernel
theorem dX7_sets_97 : decode cX7_sets 97 = .ok (.iconst 1, 1) := by decide +kernel
theorem dX7_sets_98 : decode cX7_sets 98 = .ok (.if_icmp .ne 17, 3) := by decide +kernel
theorem dX7_sets_101 : decode cX7_sets 101 = .ok (.aload_n 0, 1) := by decide +kernel
theorem dX7_sets_102 : decode cX7_sets 102 = .ok (.getfield 17, 3) := by decide +kernel
theorem dX7_sets_105 : decode cX7_sets 105 = .ok (.iload_n 1, 1) := by decide +kernel
theorem dX7_sets_106 : decode cX7_sets 106 = .ok (.iaload, 1) := by decide +kernel
theorem dX7_sets_107 : decode cX7_sets 107 = .ok (.ifCond .eq 8, 3) := by decide +kernel
theorem dX7_sets_110 : decode cX7_sets 110 = .ok (.aload_n 0, 1) := by decide +kernel
theorem dX7_sets_111 : decode cX7_sets 111 = .ok (.iload_n 1, 1) := by decide +kernel
theorem dX7_sets_112 : decode cX7_sets 112 = .ok (.invokevirtual 221, 3) := by decide +kernel
theorem dX7_sets_115 : decode cX7_sets 115 = .ok (.iinc 1 1, 3) := by decide +kernel
theorem dX7_sets_118 : decode cX7_sets 118 = .ok (.goto (-35), 3) := by decide +kernel
theorem dX7_sets_121 : decode cX7_sets 121 = .ok (.return_, 1) := by decide +kernel
theorem dX7_puts_0 : decode cX7_puts 0 = .ok (.aload_n 0, 1) := by decide +kernel
theorem dX7_puts_1 : decode cX7_puts 1 = .ok (.getfield 56, 3) := by decide +kernel
theorem dX7_puts_4 : decode cX7_puts 4 = .ok (.iload_n 1, 1) := by decide +kernel
theorem dX7_puts_5 : decode cX7_puts 5 = .ok (.iconst 1, 1) := by decide +kernel
theorem dX7_puts_6 : decode cX7_puts 6 = .ok (.iastore, 1) := by decide +kernel
theorem dX7_puts_7 : decode cX7_puts 7 = .ok (.aload_n 0, 1) := by decide +kernel
theorem dX7_puts_8 : decode cX7_puts 8 = .ok (.getfield 50, 3) := by decide +kernel
theorem dX7_puts_11 : decode cX7_puts 11 = .ok (.iload_n 1, 1) := by decide +kernel
theorem dX7_puts_12 : decode cX7_puts 12 = .ok (.iload_n 2, 1) := by decide +kernel
theorem dX7_puts_13 : decode cX7_puts 13 = .ok (.iastore, 1) := by decide +kernel
theorem dX7_puts_14 : decode cX7_puts 14 = .ok (.aload_n 0, 1) := by decide +kernel
theorem dX7_puts_15 : decode cX7_puts 15 = .ok (.getfield 53, 3) := by decide +kernel
theorem dX7_puts_18 : decode cX7_puts 18 = .ok (.iload_n 1, 1) := by decide +kernel
theorem dX7_puts_19 : decode cX7_puts 19 = .ok (.iload_n 3, 1) := by decide +kernel
theorem dX7_puts_20 : decode cX7_puts 20 = .ok (.iastore, 1) := by decide +kernel
theorem dX7_puts_21 : decode cX7_puts 21 = .ok (.return_, 1) := by decide +kernel
theorem dX7_setsBelow_0 : decode cX7_setsBelow 0 = .ok (.iload_n 1, 1) := by decide +kernel
theorem dX7_setsBelow_1 : decode cX7_setsBelow 1 = .ok (.iconst 1, 1) := by decide +kernel
theorem dX7_setsBelow_2 : decode cX7_setsBelow 2 = .ok (.iadd, 1) := by decide +kernel
theorem dX7_setsBelow_3 : decode cX7_setsBelow 3 = .ok (.istore_n 2, 1) := by decide +kernel
theorem dX7_setsBelow_4 : decode cX7_setsBelow 4 = .ok (.aload_n 0, 1) := by decide +kernel
theorem dX7_setsBelow_5 : decode cX7_setsBelow 5 = .ok (.getfield 50, 3) := by decide +kernel
theorem dX7_setsBelow_8 : decode cX7_setsBelow 8 = .ok (.iload_n 1, 1) := by decide +kernel
theorem dX7_setsBelow_9 : decode cX7_setsBelow 9 = .ok (.iaload, 1) := by decide +kernel
theorem dX7_setsBelow_10 : decode cX7_setsBelow 10 = .ok (.istore_n 3, 1) := by decide +kernel
theorem dX7_setsBelow_11 : decode cX7_setsBelow 11 = .ok (.aload_n 0, 1) := by decide +kernel
theorem dX7_setsBelow_12 : decode cX7_setsBelow 12 = .ok (.getfield 53, 3) := by decide +kernel
theorem dX7_setsBelow_15 : decode cX7_setsBelow 15 = .ok (.iload_n 1, 1) := by decide +kernel
theorem dX7_setsBelow_16 : decode cX7_setsBelow 16 = .ok (.iaload, 1) := by decide +kernel
theorem dX7_setsBelow_17 : decode cX7_setsBelow 17 = .ok (.istore 4, 2) := by decide +kernel
theorem dX7_setsBelow_19 : decode cX7_setsBelow 19 = .ok (.aload_n 0, 1) := by decide +kernel
theorem dX7_setsBelow_20 : decode cX7_setsBelow 20 = .ok (.getfield 17, 3) := by decide +kernel
theorem dX7_setsBelow_23 : decode cX7_setsBelow 23 = .ok (.iload_n 1, 1) := by decide +kernel
theorem dX7_setsBelow_24 : decode cX7_setsBelow 24 = .ok (.iaload, 1) := by decide +kernel
theorem dX7_setsBelow_25 : decode cX7_setsBelow 25 = .ok (.tableswitch 146 1 3 #[66, 112, 27], 27) := by decide +kernel
theorem dX7_setsBelow_52 : decode cX7_setsBelow 52 = .ok (.aload_n 0, 1) := by decide +kernel
theorem dX7_setsBelow_53 : decode cX7_setsBelow 53 = .ok (.aload_n 0, 1) := by decide +kernel
theorem dX7_setsBelow_54 : decode cX7_setsBelow 54 = .ok (.getfield 197, 3) := by decide +kernel
theorem dX7_setsBelow_57 : decode cX7_setsBelow 57 = .ok (.invokestatic 118, 3) := by decide +kernel
theorem dX7_setsBelow_60 : decode cX7_setsBelow 60 = .ok (.aload_n 0, 1) := by decide +kernel
theorem dX7_setsBelow_61 : decode cX7_setsBelow 61 = .ok (.getfield 20, 3) := by decide +kernel
theorem dX7_setsBelow_64 : decode cX7_setsBelow 64 = .ok (.iload_n 1, 1) := by decide +kernel
theorem dX7_setsBelow_65 : decode cX7_setsBelow 65 = .ok (.iaload, 1) := by decide +kernel
theorem dX7_setsBelow_66 : decode cX7_setsBelow 66 = .ok (.invokestatic 209, 3) := by decide +kernel
theorem dX7_setsBelow_69 : decode cX7_setsBelow 69 = .ok (.ifCond .eq 12, 3) := by decide +kernel
theorem dX7_setsBelow_72 : decode cX7_setsBelow 72 = .ok (.aload_n 0, 1) := by decide +kernel
theorem dX7_setsBelow_73 : decode cX7_setsBelow 73 = .ok (.getfield 32, 3) := by decide +kernel
theorem dX7_setsBelow_76 : decode cX7_setsBelow 76 = .ok (.iload_n 1, 1) := by decide +kernel
theorem dX7_setsBelow_77 : decode cX7_setsBelow 77 = .ok (.iaload, 1) := by decide +kernel
theorem dX7_setsBelow_78 : decode cX7_setsBelow 78 = .ok (.goto 4, 3) := by decide +kernel
theorem dX7_setsBelow_81 : decode cX7_setsBelow 81 = .ok (.iload_n 2, 1) := by decide +kernel
theorem dX7_setsBelow_82 : decode cX7_setsBelow 82 = .ok (.iload_n 3, 1) := by decide +kernel
theorem dX7_setsBelow_83 : decode cX7_setsBelow 83 = .ok (.iload 4, 2) := by decide +kernel
theorem dX7_setsBelow_85 : decode cX7_setsBelow 85 = .ok (.invokevirtual 224, 3) := by decide +kernel
theorem dX7_setsBelow_88 : decode cX7_setsBelow 88 = .ok (.goto 112, 3) := by decide +kernel
theorem dX7_setsBelow_91 : decode cX7_setsBelow 91 = .ok (.aload_n 0, 1) := by decide +kernel
theorem dX7_setsBelow_92 : decode cX7_setsBelow 92 = .ok (.iload_n 2, 1) := by decide +kernel
theorem dX7_setsBelow_93 : decode cX7_setsBelow 93 = .ok (.iload_n 3, 1) := by decide +kernel
theorem dX7_setsBelow_94 : decode cX7_setsBelow 94 = .ok (.iload 4, 2) := by decide +kernel
theorem dX7_setsBelow_96 : decode cX7_setsBelow 96 = .ok (.invokevirtual 224, 3) := by decide +kernel
theorem dX7_setsBelow_99 : decode cX7_setsBelow 99 = .ok (.aload_n 0, 1) := by decide +kernel
theorem dX7_setsBelow_100 : decode cX7_setsBelow 100 = .ok (.aload_n 0, 1) := by decide +kernel
theorem dX7_setsBelow_101 : decode cX7_setsBelow 101 = .ok (.getfield 32, 3) := by decide +kernel
theorem dX7_setsBelow_104 : decode cX7_setsBelow 104 = .ok (.iload_n 1, 1) := by decide +kernel
theorem dX7_setsBelow_105 : decode cX7_setsBelow 105 = .ok (.iaload, 1) := by decide +kernel
theorem dX7_setsBelow_106 : decode cX7_setsBelow 106 = .ok (.iload_n 3, 1) := by decide +kernel
theorem dX7_setsBelow_107 : decode cX7_setsBelow 107 = .ok (.aload_n 0, 1) := by decide +kernel
theorem dX7_setsBelow_108 : decode cX7_setsBelow 108 = .ok (.getfield 44, 3) := by decide +kernel
theorem dX7_setsBelow_111 : decode cX7_setsBelow 111 = .ok (.iload_n 2, 1) := by decide +kernel
theorem dX7_setsBelow_112 : decode cX7_setsBelow 112 = .ok (.iaload, 1) := by decide +kernel
theorem dX7_setsBelow_113 : decode cX7_setsBelow 113 = .ok (.invokestatic 121, 3) := by decide +kernel
theorem dX7_setsBelow_116 : decode cX7_setsBelow 116 = .ok (.iadd, 1) := by decide +kernel
theorem dX7_setsBelow_117 : decode cX7_setsBelow 117 = .ok (.iconst 1, 1) := by decide +kernel
theorem dX7_setsBelow_118 : decode cX7_setsBelow 118 = .ok (.isub, 1) := by decide +kernel
theorem dX7_setsBelow_119 : decode cX7_setsBelow 119 = .ok (.iload 4, 2) := by decide +kernel
theorem dX7_setsBelow_121 : decode cX7_setsBelow 121 = .ok (.aload_n 0, 1) := by decide +kernel
theorem dX7_setsBelow_122 : decode cX7_setsBelow 122 = .ok (.getfield 44, 3) := by decide +kernel
theorem dX7_setsBelow_125 : decode cX7_setsBelow 125 = .ok (.iload_n 2, 1) := by decide +kernel
theorem dX7_setsBelow_126 : decode cX7_setsBelow 126 = .ok (.iaload, 1) := by decide +kernel
theorem dX7_setsBelow_127 : decode cX7_setsBelow 127 = .ok (.invokestatic 124, 3) := by decide +kernel
theorem dX7_setsBelow_130 : decode cX7_setsBelow 130 = .ok (.iadd, 1) := by decide +kernel
theorem dX7_setsBelow_131 : decode cX7_setsBelow 131 = .ok (.invokevirtual 224, 3) := by decide +kernel
theorem dX7_setsBelow_134 : decode cX7_setsBelow 134 = .ok (.goto 66, 3) := by decide +kernel
theorem dX7_setsBelow_137 : decode cX7_setsBelow 137 = .ok (.aload_n 0, 1) := by decide +kernel
theorem dX7_setsBelow_138 : decode cX7_setsBelow 138 = .ok (.iload_n 2, 1) := by decide +kernel
theorem dX7_setsBelow_139 : decode cX7_setsBelow 139 = .ok (.iload_n 3, 1) := by decide +kernel
theorem dX7_setsBelow_140 : decode cX7_setsBelow 140 = .ok (.iload 4, 2) := by decide +kernel
theorem dX7_setsBelow_142 : decode cX7_setsBelow 142 = .ok (.invokevirtual 224, 3) := by decide +kernel
theorem dX7_setsBelow_145 : decode cX7_setsBelow 145 = .ok (.aload_n 0, 1) := by decide +kernel
theorem dX7_setsBelow_146 : decode cX7_setsBelow 146 = .ok (.aload_n 0, 1) := by decide +kernel
theorem dX7_setsBelow_147 : decode cX7_setsBelow 147 = .ok (.getfield 32, 3) := by decide +kernel
theorem dX7_setsBelow_150 : decode cX7_setsBelow 150 = .ok (.iload_n 1, 1) := by decide +kernel
theorem dX7_setsBelow_151 : decode cX7_setsBelow 151 = .ok (.iaload, 1) := by decide +kernel
theorem dX7_setsBelow_152 : decode cX7_setsBelow 152 = .ok (.iload_n 3, 1) := by decide +kernel
theorem dX7_setsBelow_153 : decode cX7_setsBelow 153 = .ok (.aload_n 0, 1) := by decide +kernel
theorem dX7_setsBelow_154 : decode cX7_setsBelow 154 = .ok (.getfield 44, 3) := by decide +kernel
theorem dX7_setsBelow_157 : decode cX7_setsBelow 157 = .ok (.iload_n 2, 1) := by decide +kernel
theorem dX7_setsBelow_158 : decode cX7_setsBelow 158 = .ok (.iaload, 1) := by decide +kernel
theorem dX7_setsBelow_159 : decode cX7_setsBelow 159 = .ok (.invokestatic 121, 3) := by decide +kernel
theorem dX7_setsBelow_162 : decode cX7_setsBelow 162 = .ok (.iadd, 1) := by decide +kernel
theorem dX7_setsBelow_163 : decode cX7_setsBelow 163 = .ok (.iload 4, 2) := by decide +kernel
theorem dX7_setsBelow_165 : decode cX7_setsBelow 165 = .ok (.invokevirtual 224, 3) := by decide +kernel
theorem dX7_setsBelow_168 : decode cX7_setsBelow 168 = .ok (.goto 32, 3) := by decide +kernel
theorem dX7_setsBelow_171 : decode cX7_setsBelow 171 = .ok (.aload_n 0, 1) := by decide +kernel
theorem dX7_setsBelow_172 : decode cX7_setsBelow 172 = .ok (.iload_n 2, 1) := by decide +kernel
theorem dX7_setsBelow_173 : decode cX7_setsBelow 173 = .ok (.iload_n 3, 1) := by decide +kernel
theorem dX7_setsBelow_174 : decode cX7_setsBelow 174 = .ok (.iload 4, 2) := by decide +kernel
theorem dX7_setsBelow_176 : decode cX7_setsBelow 176 = .ok (.aload_n 0, 1) := by decide +kernel
theorem dX7_setsBelow_177 : decode cX7_setsBelow 177 = .ok (.getfield 17, 3) := by decide +kernel
theorem dX7_setsBelow_180 : decode cX7_setsBelow 180 = .ok (.iload_n 1, 1) := by decide +kernel
theorem dX7_setsBelow_181 : decode cX7_setsBelow 181 = .ok (.iaload, 1) := by decide +kernel
theorem dX7_setsBelow_182 : decode cX7_setsBelow 182 = .ok (.iconst 4, 1) := by decide +kernel
theorem dX7_setsBelow_183 : decode cX7_setsBelow 183 = .ok (.if_icmp .ne 12, 3) := by decide +kernel
theorem dX7_setsBelow_186 : decode cX7_setsBelow 186 = .ok (.aload_n 0, 1) := by decide +kernel
theorem dX7_setsBelow_187 : decode cX7_setsBelow 187 = .ok (.getfield 20, 3) := by decide +kernel
theorem dX7_setsBelow_190 : decode cX7_setsBelow 190 = .ok (.iload_n 1, 1) := by decide +kernel
theorem dX7_setsBelow_191 : decode cX7_setsBelow 191 = .ok (.iaload, 1) := by decide +kernel
theorem dX7_setsBelow_192 : decode cX7_setsBelow 192 = .ok (.goto 4, 3) := by decide +kernel
theorem dX7_setsBelow_195 : decode cX7_setsBelow 195 = .ok (.iconst 0, 1) := by decide +kernel
theorem dX7_setsBelow_196 : decode cX7_setsBelow 196 = .ok (.iadd, 1) := by decide +kernel
theorem dX7_setsBelow_197 : decode cX7_setsBelow 197 = .ok (.invokevirtual 224, 3) := by decide +kernel
theorem dX7_setsBelow_200 : decode cX7_setsBelow 200 = .ok (.return_, 1) := by decide +kernel
theorem dX7_columnsIn_0 : decode cX7_columnsIn 0 = .ok (.iconst (-1), 1) := by decide +kernel
theorem dX7_columnsIn_1 : decode cX7_columnsIn 1 = .ok (.istore_n 2, 1) := by decide +kernel
theorem dX7_columnsIn_2 : decode cX7_columnsIn 2 = .ok (.iconst 0, 1) := by decide +kernel
theorem dX7_columnsIn_3 : decode cX7_columnsIn 3 = .ok (.istore_n 3, 1) := by decide +kernel
theorem dX7_columnsIn_4 : decode cX7_columnsIn 4 = .ok (.iload_n 3, 1) := by decide +kernel
theorem dX7_columnsIn_5 : decode cX7_columnsIn 5 = .ok (.aload_n 0, 1) := by decide +kernel
theorem dX7_columnsIn_6 : decode cX7_columnsIn 6 = .ok (.getfield 93, 3) := by decide +kernel
theorem dX7_columnsIn_9 : decode cX7_columnsIn 9 = .ok (.if_icmp .ge 72, 3) := by decide +kernel
theorem dX7_columnsIn_12 : decode cX7_columnsIn 12 = .ok (.aload_n 0, 1) := by decide +kernel
theorem dX7_columnsIn_13 : decode cX7_columnsIn 13 = .ok (.getfield 17, 3) := by decide +kernel
theorem dX7_columnsIn_16 : decode cX7_columnsIn 16 = .ok (.iload_n 3, 1) := by decide +kernel
theorem dX7_columnsIn_17 : decode cX7_columnsIn 17 = .ok (.iaload, 1) := by decide +kernel
theorem dX7_columnsIn_18 : decode cX7_columnsIn 18 = .ok (.ifCond .ne 27, 3) := by decide +kernel
theorem dX7_columnsIn_21 : decode cX7_columnsIn 21 = .ok (.aload_n 0, 1) := by decide +kernel
theorem dX7_columnsIn_22 : decode cX7_columnsIn 22 = .ok (.getfield 56, 3) := by decide +kernel
theorem dX7_columnsIn_25 : decode cX7_columnsIn 25 = .ok (.iload_n 3, 1) := by decide +kernel
theorem dX7_columnsIn_26 : decode cX7_columnsIn 26 = .ok (.iaload, 1) := by decide +kernel
theorem dX7_columnsIn_27 : decode cX7_columnsIn 27 = .ok (.iconst 1, 1) := by decide +kernel
theorem dX7_columnsIn_28 : decode cX7_columnsIn 28 = .ok (.if_icmp .ne 17, 3) := by decide +kernel
theorem dX7_columnsIn_31 : decode cX7_columnsIn 31 = .ok (.aload_n 0, 1) := by decide +kernel
theorem dX7_columnsIn_32 : decode cX7_columnsIn 32 = .ok (.getfield 50, 3) := by decide +kernel
theorem dX7_columnsIn_35 : decode cX7_columnsIn 35 = .ok (.iload_n 3, 1) := by decide +kernel
theorem dX7_columnsIn_36 : decode cX7_columnsIn 36 = .ok (.iaload, 1) := by decide +kernel
theorem dX7_columnsIn_37 : decode cX7_columnsIn 37 = .ok (.iload_n 1, 1) := by decide +kernel
theorem dX7_columnsIn_38 : decode cX7_columnsIn 38 = .ok (.if_icmp .ne 7, 3) := by decide +kernel
theorem dX7_columnsIn_41 : decode cX7_columnsIn 41 = .ok (.iconst 1, 1) := by decide +kernel
theorem dX7_columnsIn_42 : decode cX7_columnsIn 42 = .ok (.goto 4, 3) := by decide +kernel
theorem dX7_columnsIn_45 : decode cX7_columnsIn 45 = .ok (.iconst 0, 1) := by decide +kernel
theorem dX7_columnsIn_46 : decode cX7_columnsIn 46 = .ok (.istore 4, 2) := by decide +kernel
theorem dX7_columnsIn_48 : decode cX7_columnsIn 48 = .ok (.iload 4, 2) := by decide +kernel
theorem dX7_columnsIn_50 : decode cX7_columnsIn 50 = .ok (.ifCond .eq 23, 3) := by decide +kernel
theorem dX7_columnsIn_53 : decode cX7_columnsIn 53 = .ok (.iload_n 2, 1) := by decide +kernel
theorem dX7_columnsIn_54 : decode cX7_columnsIn 54 = .ok (.aload_n 0, 1) := by decide +kernel
theorem dX7_columnsIn_55 : decode cX7_columnsIn 55 = .ok (.getfield 53, 3) := by decide +kernel
theorem dX7_columnsIn_58 : decode cX7_columnsIn 58 = .ok (.iload_n 3, 1) := by decide +kernel
theorem dX7_columnsIn_59 : decode cX7_columnsIn 59 = .ok (.iaload, 1) := by decide +kernel
theorem dX7_columnsIn_60 : decode cX7_columnsIn 60 = .ok (.aload_n 0, 1) := by decide +kernel
theorem dX7_columnsIn_61 : decode cX7_columnsIn 61 = .ok (.getfield 20, 3) := by decide +kernel
theorem dX7_columnsIn_64 : decode cX7_columnsIn 64 = .ok (.iload_n 3, 1) := by decide +kernel
theorem dX7_columnsIn_65 : decode cX7_columnsIn 65 = .ok (.iaload, 1) := by decide +kernel
theorem dX7_columnsIn_66 : decode cX7_columnsIn 66 = .ok (.iadd, 1) := by decide +kernel
theorem dX7_columnsIn_67 : decode cX7_columnsIn 67 = .ok (.invokestatic 130, 3) := by decide +kernel
theorem dX7_columnsIn_70 : decode cX7_columnsIn 70 = .ok (.goto 4, 3) := by decide +kernel
theorem dX7_columnsIn_73 : decode cX7_columnsIn 73 = .ok (.iload_n 2, 1) := by decide +kernel
theorem dX7_columnsIn_74 : decode cX7_columnsIn 74 = .ok (.istore_n 2, 1) := by decide +kernel
theorem dX7_columnsIn_75 : decode cX7_columnsIn 75 = .ok (.iinc 3 1, 3) := by decide +kernel
theorem dX7_columnsIn_78 : decode cX7_columnsIn 78 = .ok (.goto (-74), 3) := by decide +kernel
theorem dX7_columnsIn_81 : decode cX7_columnsIn 81 = .ok (.iload_n 2, 1) := by decide +kernel
theorem dX7_columnsIn_82 : decode cX7_columnsIn 82 = .ok (.ireturn, 1) := by decide +kernel
theorem dX7_byteIn_0 : decode cX7_byteIn 0 = .ok (.bipush 32, 2) := by decide +kernel
theorem dX7_byteIn_2 : decode cX7_byteIn 2 = .ok (.istore_n 3, 1) := by decide +kernel
theorem dX7_byteIn_3 : decode cX7_byteIn 3 = .ok (.iconst 0, 1) := by decide +kernel
theorem dX7_byteIn_4 : decode cX7_byteIn 4 = .ok (.istore 4, 2) := by decide +kernel
theorem dX7_byteIn_6 : decode cX7_byteIn 6 = .ok (.iload 4, 2) := by decide +kernel
theorem dX7_byteIn_8 : decode cX7_byteIn 8 = .ok (.aload_n 0, 1) := by decide +kernel
theorem dX7_byteIn_9 : decode cX7_byteIn 9 = .ok (.getfield 93, 3) := by decide +kernel
theorem dX7_byteIn_12 : decode cX7_byteIn 12 = .ok (.if_icmp .ge 101, 3) := by decide +kernel
theorem dX7_byteIn_15 : decode cX7_byteIn 15 = .ok (.aload_n 0, 1) := by decide +kernel
theorem dX7_byteIn_16 : decode cX7_byteIn 16 = .ok (.getfield 17, 3) := by decide +kernel
theorem dX7_byteIn_19 : decode cX7_byteIn 19 = .ok (.iload 4, 2) := by decide +kernel
theorem dX7_byteIn_21 : decode cX7_byteIn 21 = .ok (.iaload, 1) := by decide +kernel
theorem dX7_byteIn_22 : decode cX7_byteIn 22 = .ok (.ifCond .ne 60, 3) := by decide +kernel
theorem dX7_byteIn_25 : decode cX7_byteIn 25 = .ok (.aload_n 0, 1) := by decide +kernel
theorem dX7_byteIn_26 : decode cX7_byteIn 26 = .ok (.getfield 56, 3) := by decide +kernel
theorem dX7_byteIn_29 : decode cX7_byteIn 29 = .ok (.iload 4, 2) := by decide +kernel
theorem dX7_byteIn_31 : decode cX7_byteIn 31 = .ok (.iaload, 1) := by decide +kernel
theorem dX7_byteIn_32 : decode cX7_byteIn 32 = .ok (.iconst 1, 1) := by decide +kernel
theorem dX7_byteIn_33 : decode cX7_byteIn 33 = .ok (.if_icmp .ne 49, 3) := by decide +kernel
theorem dX7_byteIn_36 : decode cX7_byteIn 36 = .ok (.aload_n 0, 1) := by decide +kernel
theorem dX7_byteIn_37 : decode cX7_byteIn 37 = .ok (.getfield 50, 3) := by decide +kernel
theorem dX7_byteIn_40 : decode cX7_byteIn 40 = .ok (.iload 4, 2) := by decide +kernel
theorem dX7_byteIn_42 : decode cX7_byteIn 42 = .ok (.iaload, 1) := by decide +kernel
theorem dX7_byteIn_43 : decode cX7_byteIn 43 = .ok (.iload_n 1, 1) := by decide +kernel
theorem dX7_byteIn_44 : decode cX7_byteIn 44 = .ok (.if_icmp .ne 38, 3) := by decide +kernel
theorem dX7_byteIn_47 : decode cX7_byteIn 47 = .ok (.iload_n 2, 1) := by decide +kernel
theorem dX7_byteIn_48 : decode cX7_byteIn 48 = .ok (.aload_n 0, 1) := by decide +kernel
theorem dX7_byteIn_49 : decode cX7_byteIn 49 = .ok (.getfield 53, 3) := by decide +kernel
theorem dX7_byteIn_52 : decode cX7_byteIn 52 = .ok (.iload 4, 2) := by decide +kernel
theorem dX7_byteIn_54 : decode cX7_byteIn 54 = .ok (.iaload, 1) := by decide +kernel
theorem dX7_byteIn_55 : decode cX7_byteIn 55 = .ok (.aload_n 0, 1) := by decide +kernel
theorem dX7_byteIn_56 : decode cX7_byteIn 56 = .ok (.getfield 53, 3) := by decide +kernel
theorem dX7_byteIn_59 : decode cX7_byteIn 59 = .ok (.iload 4, 2) := by decide +kernel
theorem dX7_byteIn_61 : decode cX7_byteIn 61 = .ok (.iaload, 1) := by decide +kernel
theorem dX7_byteIn_62 : decode cX7_byteIn 62 = .ok (.aload_n 0, 1) := by decide +kernel
theorem dX7_byteIn_63 : decode cX7_byteIn 63 = .ok (.getfield 20, 3) := by decide +kernel
theorem dX7_byteIn_66 : decode cX7_byteIn 66 = .ok (.iload 4, 2) := by decide +kernel
theorem dX7_byteIn_68 : decode cX7_byteIn 68 = .ok (.iaload, 1) := by decide +kernel
theorem dX7_byteIn_69 : decode cX7_byteIn 69 = .ok (.iadd, 1) := by decide +kernel
theorem dX7_byteIn_70 : decode cX7_byteIn 70 = .ok (.iconst 1, 1) := by decide +kernel
theorem dX7_byteIn_71 : decode cX7_byteIn 71 = .ok (.isub, 1) := by decide +kernel
theorem dX7_byteIn_72 : decode cX7_byteIn 72 = .ok (.invokestatic 75, 3) := by decide +kernel
theorem dX7_byteIn_75 : decode cX7_byteIn 75 = .ok (.ifCond .eq 7, 3) := by decide +kernel
theorem dX7_byteIn_78 : decode cX7_byteIn 78 = .ok (.iconst 1, 1) := by decide +kernel
theorem dX7_byteIn_79 : decode cX7_byteIn 79 = .ok (.goto 4, 3) := by decide +kernel
theorem dX7_byteIn_82 : decode cX7_byteIn 82 = .ok (.iconst 0, 1) := by decide +kernel
theorem dX7_byteIn_83 : decode cX7_byteIn 83 = .ok (.istore 5, 2) := by decide +kernel
theorem dX7_byteIn_85 : decode cX7_byteIn 85 = .ok (.iload 5, 2) := by decide +kernel
theorem dX7_byteIn_87 : decode cX7_byteIn 87 = .ok (.ifCond .eq 18, 3) := by decide +kernel
theorem dX7_byteIn_90 : decode cX7_byteIn 90 = .ok (.bipush 97, 2) := by decide +kernel
theorem dX7_byteIn_92 : decode cX7_byteIn 92 = .ok (.aload_n 0, 1) := by decide +kernel
theorem dX7_byteIn_93 : decode cX7_byteIn 93 = .ok (.getfield 20, 3) := by decide +kernel
theorem dX7_byteIn_96 : decode cX7_byteIn 96 = .ok (.iload 4, 2) := by decide +kernel
theorem dX7_byteIn_98 : decode cX7_byteIn 98 = .ok (.iaload, 1) := by decide +kernel
theorem dX7_byteIn_99 : decode cX7_byteIn 99 = .ok (.iadd, 1) := by decide +kernel
theorem dX7_byteIn_100 : decode cX7_byteIn 100 = .ok (.iconst 1, 1) := by decide +kernel
theorem dX7_byteIn_101 : decode cX7_byteIn 101 = .ok (.isub, 1) := by decide +kernel
theorem dX7_byteIn_102 : decode cX7_byteIn 102 = .ok (.goto 4, 3) := by decide +kernel
theorem dX7_byteIn_105 : decode cX7_byteIn 105 = .ok (.iload_n 3, 1) := by decide +kernel
theorem dX7_byteIn_106 : decode cX7_byteIn 106 = .ok (.istore_n 3, 1) := by decide +kernel
theorem dX7_byteIn_107 : decode cX7_byteIn 107 = .ok (.iinc 4 1, 3) := by decide +kernel
theorem dX7_byteIn_110 : decode cX7_byteIn 110 = .ok (.goto (-104), 3) := by decide +kernel
theorem dX7_byteIn_113 : decode cX7_byteIn 113 = .ok (.iload_n 3, 1) := by decide +kernel
theorem dX7_byteIn_114 : decode cX7_byteIn 114 = .ok (.ireturn, 1) := by decide +kernel
theorem dX7_lineOf_0 : decode cX7_lineOf 0 = .ok (.aload_n 0, 1) := by decide +kernel
theorem dX7_lineOf_1 : decode cX7_lineOf 1 = .ok (.invokevirtual 228, 3) := by decide +kernel
theorem dX7_lineOf_4 : decode cX7_lineOf 4 = .ok (.aload_n 0, 1) := by decide +kernel
theorem dX7_lineOf_5 : decode cX7_lineOf 5 = .ok (.iload_n 1, 1) := by decide +kernel
theorem dX7_lineOf_6 : decode cX7_lineOf 6 = .ok (.invokevirtual 231, 3) := by decide +kernel
theorem dX7_lineOf_9 : decode cX7_lineOf 9 = .ok (.istore_n 3, 1) := by decide +kernel
theorem dX7_lineOf_10 : decode cX7_lineOf 10 = .ok (.iload_n 2, 1) := by decide +kernel
theorem dX7_lineOf_11 : decode cX7_lineOf 11 = .ok (.iconst (-1), 1) := by decide +kernel
theorem dX7_lineOf_12 : decode cX7_lineOf 12 = .ok (.if_icmp .ne 7, 3) := by decide +kernel
theorem dX7_lineOf_15 : decode cX7_lineOf 15 = .ok (.iload_n 3, 1) := by decide +kernel
theorem dX7_lineOf_16 : decode cX7_lineOf 16 = .ok (.goto 18, 3) := by decide +kernel
theorem dX7_lineOf_19 : decode cX7_lineOf 19 = .ok (.iload_n 2, 1) := by decide +kernel
theorem dX7_lineOf_20 : decode cX7_lineOf 20 = .ok (.iload_n 3, 1) := by decide +kernel
theorem dX7_lineOf_21 : decode cX7_lineOf 21 = .ok (.if_icmp .ge 12, 3) := by decide +kernel
theorem dX7_lineOf_24 : decode cX7_lineOf 24 = .ok (.aload_n 0, 1) := by decide +kernel
theorem dX7_lineOf_25 : decode cX7_lineOf 25 = .ok (.iload_n 1, 1) := by decide +kernel
theorem dX7_lineOf_26 : decode cX7_lineOf 26 = .ok (.iload_n 2, 1) := by decide +kernel
theorem dX7_lineOf_27 : decode cX7_lineOf 27 = .ok (.invokevirtual 234, 3) := by decide +kernel
theorem dX7_lineOf_30 : decode cX7_lineOf 30 = .ok (.goto 4, 3) := by decide +kernel
theorem dX7_lineOf_33 : decode cX7_lineOf 33 = .ok (.iconst (-1), 1) := by decide +kernel
theorem dX7_lineOf_34 : decode cX7_lineOf 34 = .ok (.ireturn, 1) := by decide +kernel
theorem dX7_line_0 : decode cX7_line 0 = .ok (.iload_n 1, 1) := by decide +kernel
theorem dX7_line_1 : decode cX7_line 1 = .ok (.iconst 0, 1) := by decide +kernel
theorem dX7_line_2 : decode cX7_line 2 = .ok (.bipush 99, 2) := by decide +kernel
theorem dX7_line_4 : decode cX7_line 4 = .ok (.invokestatic 75, 3) := by decide +kernel
theorem dX7_line_7 : decode cX7_line 7 = .ok (.ifCond .eq 23, 3) := by decide +kernel
end
section
theorem dX7_line_10 : decode cX7_line 10 = .ok (.iload_n 2, 1) := by decide +kernel
theorem dX7_line_11 : decode cX7_line 11 = .ok (.iconst (-1), 1) := by decide +kernel
theorem dX7_line_12 : decode cX7_line 12 = .ok (.sipush 399, 3) := by decide +kernel
theorem dX7_line_15 : decode cX7_line 15 = .ok (.invokestatic 75, 3) := by decide +kernel
theorem dX7_line_18 : decode cX7_line 18 = .ok (.ifCond .eq 12, 3) := by decide +kernel
theorem dX7_line_21 : decode cX7_line 21 = .ok (.aload_n 0, 1) := by decide +kernel
theorem dX7_line_22 : decode cX7_line 22 = .ok (.iload_n 1, 1) := by decide +kernel
theorem dX7_line_23 : decode cX7_line 23 = .ok (.iload_n 2, 1) := by decide +kernel
theorem dX7_line_24 : decode cX7_line 24 = .ok (.invokevirtual 237, 3) := by decide +kernel
theorem dX7_line_27 : decode cX7_line 27 = .ok (.goto 5, 3) := by decide +kernel
theorem dX7_line_30 : decode cX7_line 30 = .ok (.bipush (-2), 2) := by decide +kernel
theorem dX7_line_32 : decode cX7_line 32 = .ok (.ireturn, 1) := by decide +kernel
theorem dX7_isAllowed_0 : decode cX7_isAllowed 0 = .ok (.aload_n 0, 1) := by decide +kernel
theorem dX7_isAllowed_1 : decode cX7_isAllowed 1 = .ok (.getfield 47, 3) := by decide +kernel
theorem dX7_isAllowed_4 : decode cX7_isAllowed 4 = .ok (.iload_n 1, 1) := by decide +kernel
theorem dX7_isAllowed_5 : decode cX7_isAllowed 5 = .ok (.iaload, 1) := by decide +kernel
theorem dX7_isAllowed_6 : decode cX7_isAllowed 6 = .ok (.iconst (-1), 1) := by decide +kernel
theorem dX7_isAllowed_7 : decode cX7_isAllowed 7 = .ok (.if_icmp .eq 20, 3) := by decide +kernel
theorem dX7_isAllowed_10 : decode cX7_isAllowed 10 = .ok (.aload_n 0, 1) := by decide +kernel
theorem dX7_isAllowed_11 : decode cX7_isAllowed 11 = .ok (.getfield 47, 3) := by decide +kernel
theorem dX7_isAllowed_14 : decode cX7_isAllowed 14 = .ok (.iload_n 1, 1) := by decide +kernel
theorem dX7_isAllowed_15 : decode cX7_isAllowed 15 = .ok (.iaload, 1) := by decide +kernel
theorem dX7_isAllowed_16 : decode cX7_isAllowed 16 = .ok (.invokestatic 127, 3) := by decide +kernel
theorem dX7_isAllowed_19 : decode cX7_isAllowed 19 = .ok (.iload_n 2, 1) := by decide +kernel
theorem dX7_isAllowed_20 : decode cX7_isAllowed 20 = .ok (.if_icmp .gt 7, 3) := by decide +kernel
theorem dX7_isAllowed_23 : decode cX7_isAllowed 23 = .ok (.iconst 1, 1) := by decide +kernel
theorem dX7_isAllowed_24 : decode cX7_isAllowed 24 = .ok (.goto 4, 3) := by decide +kernel
theorem dX7_isAllowed_27 : decode cX7_isAllowed 27 = .ok (.iconst 0, 1) := by decide +kernel
theorem dX7_isAllowed_28 : decode cX7_isAllowed 28 = .ok (.ireturn, 1) := by decide +kernel
theorem dX7_isAny_0 : decode cX7_isAny 0 = .ok (.iconst 0, 1) := by decide +kernel
theorem dX7_isAny_1 : decode cX7_isAny 1 = .ok (.istore_n 3, 1) := by decide +kernel
theorem dX7_isAny_2 : decode cX7_isAny 2 = .ok (.iconst 0, 1) := by decide +kernel
theorem dX7_isAny_3 : decode cX7_isAny 3 = .ok (.istore 4, 2) := by decide +kernel
theorem dX7_isAny_5 : decode cX7_isAny 5 = .ok (.iload 4, 2) := by decide +kernel
theorem dX7_isAny_7 : decode cX7_isAny 7 = .ok (.bipush 64, 2) := by decide +kernel
theorem dX7_isAny_9 : decode cX7_isAny 9 = .ok (.if_icmp .ge 44, 3) := by decide +kernel
theorem dX7_isAny_12 : decode cX7_isAny 12 = .ok (.iload_n 3, 1) := by decide +kernel
theorem dX7_isAny_13 : decode cX7_isAny 13 = .ok (.ifCond .ne 28, 3) := by decide +kernel
theorem dX7_isAny_16 : decode cX7_isAny 16 = .ok (.iload 4, 2) := by decide +kernel
theorem dX7_isAny_18 : decode cX7_isAny 18 = .ok (.iconst 1, 1) := by decide +kernel
theorem dX7_isAny_19 : decode cX7_isAny 19 = .ok (.iload_n 2, 1) := by decide +kernel
theorem dX7_isAny_20 : decode cX7_isAny 20 = .ok (.ishl, 1) := by decide +kernel
theorem dX7_isAny_21 : decode cX7_isAny 21 = .ok (.iconst 1, 1) := by decide +kernel
theorem dX7_isAny_22 : decode cX7_isAny 22 = .ok (.isub, 1) := by decide +kernel
theorem dX7_isAny_23 : decode cX7_isAny 23 = .ok (.iand, 1) := by decide +kernel
theorem dX7_isAny_24 : decode cX7_isAny 24 = .ok (.iload_n 1, 1) := by decide +kernel
theorem dX7_isAny_25 : decode cX7_isAny 25 = .ok (.if_icmp .ne 20, 3) := by decide +kernel
theorem dX7_isAny_28 : decode cX7_isAny 28 = .ok (.aload_n 0, 1) := by decide +kernel
theorem dX7_isAny_29 : decode cX7_isAny 29 = .ok (.iload 4, 2) := by decide +kernel
theorem dX7_isAny_31 : decode cX7_isAny 31 = .ok (.aload_n 0, 1) := by decide +kernel
theorem dX7_isAny_32 : decode cX7_isAny 32 = .ok (.getfield 13, 3) := by decide +kernel
theorem dX7_isAny_35 : decode cX7_isAny 35 = .ok (.invokevirtual 240, 3) := by decide +kernel
theorem dX7_isAny_38 : decode cX7_isAny 38 = .ok (.ifCond .eq 7, 3) := by decide +kernel
theorem dX7_isAny_41 : decode cX7_isAny 41 = .ok (.iconst 1, 1) := by decide +kernel
theorem dX7_isAny_42 : decode cX7_isAny 42 = .ok (.goto 4, 3) := by decide +kernel
theorem dX7_isAny_45 : decode cX7_isAny 45 = .ok (.iconst 0, 1) := by decide +kernel
theorem dX7_isAny_46 : decode cX7_isAny 46 = .ok (.istore_n 3, 1) := by decide +kernel
theorem dX7_isAny_47 : decode cX7_isAny 47 = .ok (.iinc 4 1, 3) := by decide +kernel
theorem dX7_isAny_50 : decode cX7_isAny 50 = .ok (.goto (-45), 3) := by decide +kernel
theorem dX7_isAny_53 : decode cX7_isAny 53 = .ok (.iload_n 3, 1) := by decide +kernel
theorem dX7_isAny_54 : decode cX7_isAny 54 = .ok (.ireturn, 1) := by decide +kernel
theorem dX7_hasteOf_0 : decode cX7_hasteOf 0 = .ok (.aload_n 0, 1) := by decide +kernel
theorem dX7_hasteOf_1 : decode cX7_hasteOf 1 = .ok (.invokevirtual 243, 3) := by decide +kernel
theorem dX7_hasteOf_4 : decode cX7_hasteOf 4 = .ok (.iconst 0, 1) := by decide +kernel
theorem dX7_hasteOf_5 : decode cX7_hasteOf 5 = .ok (.istore_n 2, 1) := by decide +kernel
theorem dX7_hasteOf_6 : decode cX7_hasteOf 6 = .ok (.aload_n 0, 1) := by decide +kernel
theorem dX7_hasteOf_7 : decode cX7_hasteOf 7 = .ok (.iconst 0, 1) := by decide +kernel
theorem dX7_hasteOf_8 : decode cX7_hasteOf 8 = .ok (.iconst 0, 1) := by decide +kernel
theorem dX7_hasteOf_9 : decode cX7_hasteOf 9 = .ok (.invokevirtual 246, 3) := by decide +kernel
theorem dX7_hasteOf_12 : decode cX7_hasteOf 12 = .ok (.ifCond .ne 5, 3) := by decide +kernel
theorem dX7_hasteOf_15 : decode cX7_hasteOf 15 = .ok (.iconst (-1), 1) := by decide +kernel
theorem dX7_hasteOf_16 : decode cX7_hasteOf 16 = .ok (.ireturn, 1) := by decide +kernel
theorem dX7_hasteOf_17 : decode cX7_hasteOf 17 = .ok (.iconst 0, 1) := by decide +kernel
theorem dX7_hasteOf_18 : decode cX7_hasteOf 18 = .ok (.istore_n 3, 1) := by decide +kernel
theorem dX7_hasteOf_19 : decode cX7_hasteOf 19 = .ok (.iload_n 3, 1) := by decide +kernel
theorem dX7_hasteOf_20 : decode cX7_hasteOf 20 = .ok (.aload_n 0, 1) := by decide +kernel
theorem dX7_hasteOf_21 : decode cX7_hasteOf 21 = .ok (.getfield 96, 3) := by decide +kernel
theorem dX7_hasteOf_24 : decode cX7_hasteOf 24 = .ok (.if_icmp .ge 30, 3) := by decide +kernel
theorem dX7_hasteOf_27 : decode cX7_hasteOf 27 = .ok (.iload_n 2, 1) := by decide +kernel
theorem dX7_hasteOf_28 : decode cX7_hasteOf 28 = .ok (.aload_n 0, 1) := by decide +kernel
theorem dX7_hasteOf_29 : decode cX7_hasteOf 29 = .ok (.iload_n 2, 1) := by decide +kernel
theorem dX7_hasteOf_30 : decode cX7_hasteOf 30 = .ok (.iload_n 3, 1) := by decide +kernel
theorem dX7_hasteOf_31 : decode cX7_hasteOf 31 = .ok (.iconst 1, 1) := by decide +kernel
theorem dX7_hasteOf_32 : decode cX7_hasteOf 32 = .ok (.iadd, 1) := by decide +kernel
theorem dX7_hasteOf_33 : decode cX7_hasteOf 33 = .ok (.invokevirtual 246, 3) := by decide +kernel
theorem dX7_hasteOf_36 : decode cX7_hasteOf 36 = .ok (.ifCond .eq 7, 3) := by decide +kernel
theorem dX7_hasteOf_39 : decode cX7_hasteOf 39 = .ok (.iconst 0, 1) := by decide +kernel
theorem dX7_hasteOf_40 : decode cX7_hasteOf 40 = .ok (.goto 6, 3) := by decide +kernel
theorem dX7_hasteOf_43 : decode cX7_hasteOf 43 = .ok (.iconst 1, 1) := by decide +kernel
theorem dX7_hasteOf_44 : decode cX7_hasteOf 44 = .ok (.iload_n 3, 1) := by decide +kernel
theorem dX7_hasteOf_45 : decode cX7_hasteOf 45 = .ok (.ishl, 1) := by decide +kernel
theorem dX7_hasteOf_46 : decode cX7_hasteOf 46 = .ok (.ior, 1) := by decide +kernel
theorem dX7_hasteOf_47 : decode cX7_hasteOf 47 = .ok (.istore_n 2, 1) := by decide +kernel
theorem dX7_hasteOf_48 : decode cX7_hasteOf 48 = .ok (.iinc 3 1, 3) := by decide +kernel
theorem dX7_hasteOf_51 : decode cX7_hasteOf 51 = .ok (.goto (-32), 3) := by decide +kernel
theorem dX7_hasteOf_54 : decode cX7_hasteOf 54 = .ok (.iload_n 1, 1) := by decide +kernel
theorem dX7_hasteOf_55 : decode cX7_hasteOf 55 = .ok (.ifCond .ne 7, 3) := by decide +kernel
theorem dX7_hasteOf_58 : decode cX7_hasteOf 58 = .ok (.iload_n 2, 1) := by decide +kernel
theorem dX7_hasteOf_59 : decode cX7_hasteOf 59 = .ok (.goto 29, 3) := by decide +kernel
theorem dX7_hasteOf_62 : decode cX7_hasteOf 62 = .ok (.iload_n 1, 1) := by decide +kernel
theorem dX7_hasteOf_63 : decode cX7_hasteOf 63 = .ok (.iconst 1, 1) := by decide +kernel
theorem dX7_hasteOf_64 : decode cX7_hasteOf 64 = .ok (.if_icmp .ne 15, 3) := by decide +kernel
theorem dX7_hasteOf_67 : decode cX7_hasteOf 67 = .ok (.aload_n 0, 1) := by decide +kernel
theorem dX7_hasteOf_68 : decode cX7_hasteOf 68 = .ok (.getfield 47, 3) := by decide +kernel
theorem dX7_hasteOf_71 : decode cX7_hasteOf 71 = .ok (.iload_n 2, 1) := by decide +kernel
theorem dX7_hasteOf_72 : decode cX7_hasteOf 72 = .ok (.iaload, 1) := by decide +kernel
theorem dX7_hasteOf_73 : decode cX7_hasteOf 73 = .ok (.invokestatic 121, 3) := by decide +kernel
theorem dX7_hasteOf_76 : decode cX7_hasteOf 76 = .ok (.goto 12, 3) := by decide +kernel
theorem dX7_hasteOf_79 : decode cX7_hasteOf 79 = .ok (.aload_n 0, 1) := by decide +kernel
theorem dX7_hasteOf_80 : decode cX7_hasteOf 80 = .ok (.getfield 47, 3) := by decide +kernel
theorem dX7_hasteOf_83 : decode cX7_hasteOf 83 = .ok (.iload_n 2, 1) := by decide +kernel
theorem dX7_hasteOf_84 : decode cX7_hasteOf 84 = .ok (.iaload, 1) := by decide +kernel
theorem dX7_hasteOf_85 : decode cX7_hasteOf 85 = .ok (.invokestatic 127, 3) := by decide +kernel
theorem dX7_hasteOf_88 : decode cX7_hasteOf 88 = .ok (.ireturn, 1) := by decide +kernel
theorem dX7_haste_0 : decode cX7_haste 0 = .ok (.iload_n 1, 1) := by decide +kernel
theorem dX7_haste_1 : decode cX7_haste 1 = .ok (.iconst 0, 1) := by decide +kernel
theorem dX7_haste_2 : decode cX7_haste 2 = .ok (.iconst 2, 1) := by decide +kernel
theorem dX7_haste_3 : decode cX7_haste 3 = .ok (.invokestatic 75, 3) := by decide +kernel
theorem dX7_haste_6 : decode cX7_haste 6 = .ok (.ifCond .eq 11, 3) := by decide +kernel
theorem dX7_haste_9 : decode cX7_haste 9 = .ok (.aload_n 0, 1) := by decide +kernel
theorem dX7_haste_10 : decode cX7_haste 10 = .ok (.iload_n 1, 1) := by decide +kernel
theorem dX7_haste_11 : decode cX7_haste 11 = .ok (.invokevirtual 249, 3) := by decide +kernel
theorem dX7_haste_14 : decode cX7_haste 14 = .ok (.goto 5, 3) := by decide +kernel
theorem dX7_haste_17 : decode cX7_haste 17 = .ok (.bipush (-2), 2) := by decide +kernel
theorem dX7_haste_19 : decode cX7_haste 19 = .ok (.ireturn, 1) := by decide +kernel
theorem dX7_leastMost_0 : decode cX7_leastMost 0 = .ok (.iconst (-1), 1) := by decide +kernel
theorem dX7_leastMost_1 : decode cX7_leastMost 1 = .ok (.istore_n 1, 1) := by decide +kernel
theorem dX7_leastMost_2 : decode cX7_leastMost 2 = .ok (.iconst 0, 1) := by decide +kernel
theorem dX7_leastMost_3 : decode cX7_leastMost 3 = .ok (.istore_n 2, 1) := by decide +kernel
theorem dX7_leastMost_4 : decode cX7_leastMost 4 = .ok (.iload_n 2, 1) := by decide +kernel
theorem dX7_leastMost_5 : decode cX7_leastMost 5 = .ok (.bipush 64, 2) := by decide +kernel
theorem dX7_leastMost_7 : decode cX7_leastMost 7 = .ok (.if_icmp .ge 61, 3) := by decide +kernel
theorem dX7_leastMost_10 : decode cX7_leastMost 10 = .ok (.aload_n 0, 1) := by decide +kernel
theorem dX7_leastMost_11 : decode cX7_leastMost 11 = .ok (.getfield 47, 3) := by decide +kernel
theorem dX7_leastMost_14 : decode cX7_leastMost 14 = .ok (.iload_n 2, 1) := by decide +kernel
theorem dX7_leastMost_15 : decode cX7_leastMost 15 = .ok (.iaload, 1) := by decide +kernel
theorem dX7_leastMost_16 : decode cX7_leastMost 16 = .ok (.iconst (-1), 1) := by decide +kernel
theorem dX7_leastMost_17 : decode cX7_leastMost 17 = .ok (.if_icmp .eq 25, 3) := by decide +kernel
theorem dX7_leastMost_20 : decode cX7_leastMost 20 = .ok (.iload_n 1, 1) := by decide +kernel
theorem dX7_leastMost_21 : decode cX7_leastMost 21 = .ok (.iconst (-1), 1) := by decide +kernel
theorem dX7_leastMost_22 : decode cX7_leastMost 22 = .ok (.if_icmp .eq 16, 3) := by decide +kernel
theorem dX7_leastMost_25 : decode cX7_leastMost 25 = .ok (.aload_n 0, 1) := by decide +kernel
theorem dX7_leastMost_26 : decode cX7_leastMost 26 = .ok (.getfield 47, 3) := by decide +kernel
theorem dX7_leastMost_29 : decode cX7_leastMost 29 = .ok (.iload_n 2, 1) := by decide +kernel
theorem dX7_leastMost_30 : decode cX7_leastMost 30 = .ok (.iaload, 1) := by decide +kernel
theorem dX7_leastMost_31 : decode cX7_leastMost 31 = .ok (.invokestatic 127, 3) := by decide +kernel
theorem dX7_leastMost_34 : decode cX7_leastMost 34 = .ok (.iload_n 1, 1) := by decide +kernel
theorem dX7_leastMost_35 : decode cX7_leastMost 35 = .ok (.if_icmp .ge 7, 3) := by decide +kernel
theorem dX7_leastMost_38 : decode cX7_leastMost 38 = .ok (.iconst 1, 1) := by decide +kernel
theorem dX7_leastMost_39 : decode cX7_leastMost 39 = .ok (.goto 4, 3) := by decide +kernel
theorem dX7_leastMost_42 : decode cX7_leastMost 42 = .ok (.iconst 0, 1) := by decide +kernel
theorem dX7_leastMost_43 : decode cX7_leastMost 43 = .ok (.istore_n 3, 1) := by decide +kernel
theorem dX7_leastMost_44 : decode cX7_leastMost 44 = .ok (.iload_n 3, 1) := by decide +kernel
theorem dX7_leastMost_45 : decode cX7_leastMost 45 = .ok (.ifCond .eq 15, 3) := by decide +kernel
theorem dX7_leastMost_48 : decode cX7_leastMost 48 = .ok (.aload_n 0, 1) := by decide +kernel
theorem dX7_leastMost_49 : decode cX7_leastMost 49 = .ok (.getfield 47, 3) := by decide +kernel
theorem dX7_leastMost_52 : decode cX7_leastMost 52 = .ok (.iload_n 2, 1) := by decide +kernel
theorem dX7_leastMost_53 : decode cX7_leastMost 53 = .ok (.iaload, 1) := by decide +kernel
theorem dX7_leastMost_54 : decode cX7_leastMost 54 = .ok (.invokestatic 127, 3) := by decide +kernel
theorem dX7_leastMost_57 : decode cX7_leastMost 57 = .ok (.goto 4, 3) := by decide +kernel
theorem dX7_leastMost_60 : decode cX7_leastMost 60 = .ok (.iload_n 1, 1) := by decide +kernel
theorem dX7_leastMost_61 : decode cX7_leastMost 61 = .ok (.istore_n 1, 1) := by decide +kernel
theorem dX7_leastMost_62 : decode cX7_leastMost 62 = .ok (.iinc 2 1, 3) := by decide +kernel
theorem dX7_leastMost_65 : decode cX7_leastMost 65 = .ok (.goto (-61), 3) := by decide +kernel
theorem dX7_leastMost_68 : decode cX7_leastMost 68 = .ok (.iload_n 1, 1) := by decide +kernel
theorem dX7_leastMost_69 : decode cX7_leastMost 69 = .ok (.ireturn, 1) := by decide +kernel
theorem dX7_enoughOf_0 : decode cX7_enoughOf 0 = .ok (.aload_n 0, 1) := by decide +kernel
theorem dX7_enoughOf_1 : decode cX7_enoughOf 1 = .ok (.invokevirtual 243, 3) := by decide +kernel
theorem dX7_enoughOf_4 : decode cX7_enoughOf 4 = .ok (.aload_n 0, 1) := by decide +kernel
theorem dX7_enoughOf_5 : decode cX7_enoughOf 5 = .ok (.invokevirtual 252, 3) := by decide +kernel
theorem dX7_enoughOf_8 : decode cX7_enoughOf 8 = .ok (.istore_n 1, 1) := by decide +kernel
theorem dX7_enoughOf_9 : decode cX7_enoughOf 9 = .ok (.iload_n 1, 1) := by decide +kernel
theorem dX7_enoughOf_10 : decode cX7_enoughOf 10 = .ok (.bipush 99, 2) := by decide +kernel
theorem dX7_enoughOf_12 : decode cX7_enoughOf 12 = .ok (.if_icmp .le 7, 3) := by decide +kernel
theorem dX7_enoughOf_15 : decode cX7_enoughOf 15 = .ok (.iconst (-1), 1) := by decide +kernel
theorem dX7_enoughOf_16 : decode cX7_enoughOf 16 = .ok (.goto 4, 3) := by decide +kernel
theorem dX7_enoughOf_19 : decode cX7_enoughOf 19 = .ok (.iload_n 1, 1) := by decide +kernel
theorem dX7_enoughOf_20 : decode cX7_enoughOf 20 = .ok (.ireturn, 1) := by decide +kernel
theorem dX7_enough_0 : decode cX7_enough 0 = .ok (.aload_n 0, 1) := by decide +kernel
theorem dX7_enough_1 : decode cX7_enough 1 = .ok (.invokevirtual 255, 3) := by decide +kernel
theorem dX7_enough_4 : decode cX7_enough 4 = .ok (.ireturn, 1) := by decide +kernel
theorem dX7_fewest_0 : decode cX7_fewest 0 = .ok (.iconst (-1), 1) := by decide +kernel
theorem dX7_fewest_1 : decode cX7_fewest 1 = .ok (.istore_n 3, 1) := by decide +kernel
theorem dX7_fewest_2 : decode cX7_fewest 2 = .ok (.iconst 0, 1) := by decide +kernel
theorem dX7_fewest_3 : decode cX7_fewest 3 = .ok (.istore 4, 2) := by decide +kernel
theorem dX7_fewest_5 : decode cX7_fewest 5 = .ok (.iload 4, 2) := by decide +kernel
theorem dX7_fewest_7 : decode cX7_fewest 7 = .ok (.bipush 64, 2) := by decide +kernel
theorem dX7_fewest_9 : decode cX7_fewest 9 = .ok (.if_icmp .ge 72, 3) := by decide +kernel
theorem dX7_fewest_12 : decode cX7_fewest 12 = .ok (.iload 4, 2) := by decide +kernel
theorem dX7_fewest_14 : decode cX7_fewest 14 = .ok (.iload_n 2, 1) := by decide +kernel
theorem dX7_fewest_15 : decode cX7_fewest 15 = .ok (.iand, 1) := by decide +kernel
theorem dX7_fewest_16 : decode cX7_fewest 16 = .ok (.ifCond .ne 17, 3) := by decide +kernel
theorem dX7_fewest_19 : decode cX7_fewest 19 = .ok (.aload_n 0, 1) := by decide +kernel
theorem dX7_fewest_20 : decode cX7_fewest 20 = .ok (.iload 4, 2) := by decide +kernel
theorem dX7_fewest_22 : decode cX7_fewest 22 = .ok (.iload_n 1, 1) := by decide +kernel
theorem dX7_fewest_23 : decode cX7_fewest 23 = .ok (.invokevirtual 240, 3) := by decide +kernel
theorem dX7_fewest_26 : decode cX7_fewest 26 = .ok (.ifCond .eq 7, 3) := by decide +kernel
theorem dX7_fewest_29 : decode cX7_fewest 29 = .ok (.iconst 1, 1) := by decide +kernel
theorem dX7_fewest_30 : decode cX7_fewest 30 = .ok (.goto 4, 3) := by decide +kernel
theorem dX7_fewest_33 : decode cX7_fewest 33 = .ok (.iconst 0, 1) := by decide +kernel
theorem dX7_fewest_34 : decode cX7_fewest 34 = .ok (.istore 5, 2) := by decide +kernel
theorem dX7_fewest_36 : decode cX7_fewest 36 = .ok (.iload 5, 2) := by decide +kernel
theorem dX7_fewest_38 : decode cX7_fewest 38 = .ok (.ifCond .eq 35, 3) := by decide +kernel
theorem dX7_fewest_41 : decode cX7_fewest 41 = .ok (.iload_n 3, 1) := by decide +kernel
theorem dX7_fewest_42 : decode cX7_fewest 42 = .ok (.iconst (-1), 1) := by decide +kernel
theorem dX7_fewest_43 : decode cX7_fewest 43 = .ok (.if_icmp .eq 17, 3) := by decide +kernel
theorem dX7_fewest_46 : decode cX7_fewest 46 = .ok (.aload_n 0, 1) := by decide +kernel
theorem dX7_fewest_47 : decode cX7_fewest 47 = .ok (.getfield 47, 3) := by decide +kernel
theorem dX7_fewest_50 : decode cX7_fewest 50 = .ok (.iload 4, 2) := by decide +kernel
theorem dX7_fewest_52 : decode cX7_fewest 52 = .ok (.iaload, 1) := by decide +kernel
theorem dX7_fewest_53 : decode cX7_fewest 53 = .ok (.invokestatic 121, 3) := by decide +kernel
theorem dX7_fewest_56 : decode cX7_fewest 56 = .ok (.iload_n 3, 1) := by decide +kernel
theorem dX7_fewest_57 : decode cX7_fewest 57 = .ok (.if_icmp .ge 16, 3) := by decide +kernel
theorem dX7_fewest_60 : decode cX7_fewest 60 = .ok (.aload_n 0, 1) := by decide +kernel
theorem dX7_fewest_61 : decode cX7_fewest 61 = .ok (.getfield 47, 3) := by decide +kernel
theorem dX7_fewest_64 : decode cX7_fewest 64 = .ok (.iload 4, 2) := by decide +kernel
theorem dX7_fewest_66 : decode cX7_fewest 66 = .ok (.iaload, 1) := by decide +kernel
theorem dX7_fewest_67 : decode cX7_fewest 67 = .ok (.invokestatic 121, 3) := by decide +kernel
theorem dX7_fewest_70 : decode cX7_fewest 70 = .ok (.goto 4, 3) := by decide +kernel
theorem dX7_fewest_73 : decode cX7_fewest 73 = .ok (.iload_n 3, 1) := by decide +kernel
theorem dX7_fewest_74 : decode cX7_fewest 74 = .ok (.istore_n 3, 1) := by decide +kernel
theorem dX7_fewest_75 : decode cX7_fewest 75 = .ok (.iinc 4 1, 3) := by decide +kernel
theorem dX7_fewest_78 : decode cX7_fewest 78 = .ok (.goto (-73), 3) := by decide +kernel
theorem dX7_fewest_81 : decode cX7_fewest 81 = .ok (.iload_n 3, 1) := by decide +kernel
theorem dX7_fewest_82 : decode cX7_fewest 82 = .ok (.ireturn, 1) := by decide +kernel
theorem dX7_shrinksOf_0 : decode cX7_shrinksOf 0 = .ok (.aload_n 0, 1) := by decide +kernel
theorem dX7_shrinksOf_1 : decode cX7_shrinksOf 1 = .ok (.invokevirtual 243, 3) := by decide +kernel
theorem dX7_shrinksOf_4 : decode cX7_shrinksOf 4 = .ok (.iconst 0, 1) := by decide +kernel
theorem dX7_shrinksOf_5 : decode cX7_shrinksOf 5 = .ok (.istore_n 2, 1) := by decide +kernel
theorem dX7_shrinksOf_6 : decode cX7_shrinksOf 6 = .ok (.iconst (-1), 1) := by decide +kernel
theorem dX7_shrinksOf_7 : decode cX7_shrinksOf 7 = .ok (.istore_n 3, 1) := by decide +kernel
theorem dX7_shrinksOf_8 : decode cX7_shrinksOf 8 = .ok (.aload_n 0, 1) := by decide +kernel
theorem dX7_shrinksOf_9 : decode cX7_shrinksOf 9 = .ok (.iconst 1, 1) := by decide +kernel
theorem dX7_shrinksOf_10 : decode cX7_shrinksOf 10 = .ok (.iconst 0, 1) := by decide +kernel
theorem dX7_shrinksOf_11 : decode cX7_shrinksOf 11 = .ok (.invokevirtual 258, 3) := by decide +kernel
theorem dX7_shrinksOf_14 : decode cX7_shrinksOf 14 = .ok (.istore 4, 2) := by decide +kernel
theorem dX7_shrinksOf_16 : decode cX7_shrinksOf 16 = .ok (.iconst 2, 1) := by decide +kernel
theorem dX7_shrinksOf_17 : decode cX7_shrinksOf 17 = .ok (.istore 5, 2) := by decide +kernel
theorem dX7_shrinksOf_19 : decode cX7_shrinksOf 19 = .ok (.iload 5, 2) := by decide +kernel
theorem dX7_shrinksOf_21 : decode cX7_shrinksOf 21 = .ok (.bipush 100, 2) := by decide +kernel
theorem dX7_shrinksOf_23 : decode cX7_shrinksOf 23 = .ok (.if_icmp .ge 50, 3) := by decide +kernel
theorem dX7_shrinksOf_26 : decode cX7_shrinksOf 26 = .ok (.aload_n 0, 1) := by decide +kernel
theorem dX7_shrinksOf_27 : decode cX7_shrinksOf 27 = .ok (.iload 5, 2) := by decide +kernel
theorem dX7_shrinksOf_29 : decode cX7_shrinksOf 29 = .ok (.iconst 0, 1) := by decide +kernel
theorem dX7_shrinksOf_30 : decode cX7_shrinksOf 30 = .ok (.invokevirtual 258, 3) := by decide +kernel
theorem dX7_shrinksOf_33 : decode cX7_shrinksOf 33 = .ok (.istore 6, 2) := by decide +kernel
theorem dX7_shrinksOf_35 : decode cX7_shrinksOf 35 = .ok (.iload 4, 2) := by decide +kernel
theorem dX7_shrinksOf_37 : decode cX7_shrinksOf 37 = .ok (.iconst (-1), 1) := by decide +kernel
theorem dX7_shrinksOf_38 : decode cX7_shrinksOf 38 = .ok (.if_icmp .eq 25, 3) := by decide +kernel
theorem dX7_shrinksOf_41 : decode cX7_shrinksOf 41 = .ok (.iload 6, 2) := by decide +kernel
theorem dX7_shrinksOf_43 : decode cX7_shrinksOf 43 = .ok (.iload 4, 2) := by decide +kernel
theorem dX7_shrinksOf_45 : decode cX7_shrinksOf 45 = .ok (.if_icmp .ge 18, 3) := by decide +kernel
theorem dX7_shrinksOf_48 : decode cX7_shrinksOf 48 = .ok (.iload_n 2, 1) := by decide +kernel
theorem dX7_shrinksOf_49 : decode cX7_shrinksOf 49 = .ok (.iload_n 1, 1) := by decide +kernel
theorem dX7_shrinksOf_50 : decode cX7_shrinksOf 50 = .ok (.if_icmp .ne 8, 3) := by decide +kernel
theorem dX7_shrinksOf_53 : decode cX7_shrinksOf 53 = .ok (.iload 5, 2) := by decide +kernel
theorem dX7_shrinksOf_55 : decode cX7_shrinksOf 55 = .ok (.goto 4, 3) := by decide +kernel
theorem dX7_shrinksOf_58 : decode cX7_shrinksOf 58 = .ok (.iload_n 3, 1) := by decide +kernel
theorem dX7_shrinksOf_59 : decode cX7_shrinksOf 59 = .ok (.istore_n 3, 1) := by decide +kernel
theorem dX7_shrinksOf_60 : decode cX7_shrinksOf 60 = .ok (.iinc 2 1, 3) := by decide +kernel
theorem dX7_shrinksOf_63 : decode cX7_shrinksOf 63 = .ok (.iload 6, 2) := by decide +kernel
theorem dX7_shrinksOf_65 : decode cX7_shrinksOf 65 = .ok (.istore 4, 2) := by decide +kernel
theorem dX7_shrinksOf_67 : decode cX7_shrinksOf 67 = .ok (.iinc 5 1, 3) := by decide +kernel
theorem dX7_shrinksOf_70 : decode cX7_shrinksOf 70 = .ok (.goto (-51), 3) := by decide +kernel
theorem dX7_shrinksOf_73 : decode cX7_shrinksOf 73 = .ok (.iload_n 1, 1) := by decide +kernel
theorem dX7_shrinksOf_74 : decode cX7_shrinksOf 74 = .ok (.iconst (-1), 1) := by decide +kernel
theorem dX7_shrinksOf_75 : decode cX7_shrinksOf 75 = .ok (.if_icmp .ne 7, 3) := by decide +kernel
theorem dX7_shrinksOf_78 : decode cX7_shrinksOf 78 = .ok (.iload_n 2, 1) := by decide +kernel
theorem dX7_shrinksOf_79 : decode cX7_shrinksOf 79 = .ok (.goto 4, 3) := by decide +kernel
theorem dX7_shrinksOf_82 : decode cX7_shrinksOf 82 = .ok (.iload_n 3, 1) := by decide +kernel
theorem dX7_shrinksOf_83 : decode cX7_shrinksOf 83 = .ok (.ireturn, 1) := by decide +kernel
theorem dX7_shrinks_0 : decode cX7_shrinks 0 = .ok (.iload_n 1, 1) := by decide +kernel
theorem dX7_shrinks_1 : decode cX7_shrinks 1 = .ok (.iconst (-1), 1) := by decide +kernel
theorem dX7_shrinks_2 : decode cX7_shrinks 2 = .ok (.bipush 39, 2) := by decide +kernel
theorem dX7_shrinks_4 : decode cX7_shrinks 4 = .ok (.invokestatic 75, 3) := by decide +kernel
theorem dX7_shrinks_7 : decode cX7_shrinks 7 = .ok (.ifCond .eq 11, 3) := by decide +kernel
theorem dX7_shrinks_10 : decode cX7_shrinks 10 = .ok (.aload_n 0, 1) := by decide +kernel
theorem dX7_shrinks_11 : decode cX7_shrinks 11 = .ok (.iload_n 1, 1) := by decide +kernel
theorem dX7_shrinks_12 : decode cX7_shrinks 12 = .ok (.invokevirtual 261, 3) := by decide +kernel
theorem dX7_shrinks_15 : decode cX7_shrinks 15 = .ok (.goto 5, 3) := by decide +kernel
theorem dX7_shrinks_18 : decode cX7_shrinks 18 = .ok (.bipush (-2), 2) := by decide +kernel
theorem dX7_shrinks_20 : decode cX7_shrinks 20 = .ok (.ireturn, 1) := by decide +kernel
theorem dX7_leastWithout_0 : decode cX7_leastWithout 0 = .ok (.iconst (-1), 1) := by decide +kernel
theorem dX7_leastWithout_1 : decode cX7_leastWithout 1 = .ok (.istore_n 2, 1) := by decide +kernel
theorem dX7_leastWithout_2 : decode cX7_leastWithout 2 = .ok (.iconst 0, 1) := by decide +kernel
theorem dX7_leastWithout_3 : decode cX7_leastWithout 3 = .ok (.istore_n 3, 1) := by decide +kernel
theorem dX7_leastWithout_4 : decode cX7_leastWithout 4 = .ok (.iload_n 3, 1) := by decide +kernel
theorem dX7_leastWithout_5 : decode cX7_leastWithout 5 = .ok (.bipush 64, 2) := by decide +kernel
theorem dX7_leastWithout_7 : decode cX7_leastWithout 7 = .ok (.if_icmp .ge 69, 3) := by decide +kernel
theorem dX7_leastWithout_10 : decode cX7_leastWithout 10 = .ok (.iload_n 3, 1) := by decide +kernel
theorem dX7_leastWithout_11 : decode cX7_leastWithout 11 = .ok (.iload_n 1, 1) := by decide +kernel
theorem dX7_leastWithout_12 : decode cX7_leastWithout 12 = .ok (.iand, 1) := by decide +kernel
theorem dX7_leastWithout_13 : decode cX7_leastWithout 13 = .ok (.ifCond .ne 35, 3) := by decide +kernel
theorem dX7_leastWithout_16 : decode cX7_leastWithout 16 = .ok (.aload_n 0, 1) := by decide +kernel
theorem dX7_leastWithout_17 : decode cX7_leastWithout 17 = .ok (.getfield 47, 3) := by decide +kernel
theorem dX7_leastWithout_20 : decode cX7_leastWithout 20 = .ok (.iload_n 3, 1) := by decide +kernel
theorem dX7_leastWithout_21 : decode cX7_leastWithout 21 = .ok (.iaload, 1) := by decide +kernel
theorem dX7_leastWithout_22 : decode cX7_leastWithout 22 = .ok (.iconst (-1), 1) := by decide +kernel
theorem dX7_leastWithout_23 : decode cX7_leastWithout 23 = .ok (.if_icmp .eq 25, 3) := by decide +kernel
theorem dX7_leastWithout_26 : decode cX7_leastWithout 26 = .ok (.iload_n 2, 1) := by decide +kernel
theorem dX7_leastWithout_27 : decode cX7_leastWithout 27 = .ok (.iconst (-1), 1) := by decide +kernel
theorem dX7_leastWithout_28 : decode cX7_leastWithout 28 = .ok (.if_icmp .eq 16, 3) := by decide +kernel
theorem dX7_leastWithout_31 : decode cX7_leastWithout 31 = .ok (.aload_n 0, 1) := by decide +kernel
theorem dX7_leastWithout_32 : decode cX7_leastWithout 32 = .ok (.getfield 47, 3) := by decide +kernel
theorem dX7_leastWithout_35 : decode cX7_leastWithout 35 = .ok (.iload_n 3, 1) := by decide +kernel
theorem dX7_leastWithout_36 : decode cX7_leastWithout 36 = .ok (.iaload, 1) := by decide +kernel
theorem dX7_leastWithout_37 : decode cX7_leastWithout 37 = .ok (.invokestatic 127, 3) := by decide +kernel
theorem dX7_leastWithout_40 : decode cX7_leastWithout 40 = .ok (.iload_n 2, 1) := by decide +kernel
theorem dX7_leastWithout_41 : decode cX7_leastWithout 41 = .ok (.if_icmp .ge 7, 3) := by decide +kernel
theorem dX7_leastWithout_44 : decode cX7_leastWithout 44 = .ok (.iconst 1, 1) := by decide +kernel
theorem dX7_leastWithout_45 : decode cX7_leastWithout 45 = .ok (.goto 4, 3) := by decide +kernel
theorem dX7_leastWithout_48 : decode cX7_leastWithout 48 = .ok (.iconst 0, 1) := by decide +kernel
theorem dX7_leastWithout_49 : decode cX7_leastWithout 49 = .ok (.istore 4, 2) := by decide +kernel
theorem dX7_leastWithout_51 : decode cX7_leastWithout 51 = .ok (.iload 4, 2) := by decide +kernel
theorem dX7_leastWithout_53 : decode cX7_leastWithout 53 = .ok (.ifCond .eq 15, 3) := by decide +kernel
theorem dX7_leastWithout_56 : decode cX7_leastWithout 56 = .ok (.aload_n 0, 1) := by decide +kernel
theorem dX7_leastWithout_57 : decode cX7_leastWithout 57 = .ok (.getfield 47, 3) := by decide +kernel
theorem dX7_leastWithout_60 : decode cX7_leastWithout 60 = .ok (.iload_n 3, 1) := by decide +kernel
theorem dX7_leastWithout_61 : decode cX7_leastWithout 61 = .ok (.iaload, 1) := by decide +kernel
theorem dX7_leastWithout_62 : decode cX7_leastWithout 62 = .ok (.invokestatic 127, 3) := by decide +kernel
theorem dX7_leastWithout_65 : decode cX7_leastWithout 65 = .ok (.goto 4, 3) := by decide +kernel
theorem dX7_leastWithout_68 : decode cX7_leastWithout 68 = .ok (.iload_n 2, 1) := by decide +kernel
theorem dX7_leastWithout_69 : decode cX7_leastWithout 69 = .ok (.istore_n 2, 1) := by decide +kernel
theorem dX7_leastWithout_70 : decode cX7_leastWithout 70 = .ok (.iinc 3 1, 3) := by decide +kernel
theorem dX7_leastWithout_73 : decode cX7_leastWithout 73 = .ok (.goto (-69), 3) := by decide +kernel
theorem dX7_leastWithout_76 : decode cX7_leastWithout 76 = .ok (.iload_n 2, 1) := by decide +kernel
theorem dX7_leastWithout_77 : decode cX7_leastWithout 77 = .ok (.ireturn, 1) := by decide +kernel
theorem dX7_linesWithout_0 : decode cX7_linesWithout 0 = .ok (.aload_n 0, 1) := by decide +kernel
theorem dX7_linesWithout_1 : decode cX7_linesWithout 1 = .ok (.iload_n 1, 1) := by decide +kernel
theorem dX7_linesWithout_2 : decode cX7_linesWithout 2 = .ok (.invokevirtual 264, 3) := by decide +kernel
theorem dX7_linesWithout_5 : decode cX7_linesWithout 5 = .ok (.istore_n 2, 1) := by decide +kernel
theorem dX7_linesWithout_6 : decode cX7_linesWithout 6 = .ok (.iload_n 2, 1) := by decide +kernel
theorem dX7_linesWithout_7 : decode cX7_linesWithout 7 = .ok (.iconst (-1), 1) := by decide +kernel
theorem dX7_linesWithout_8 : decode cX7_linesWithout 8 = .ok (.if_icmp .ne 7, 3) := by decide +kernel
theorem dX7_linesWithout_11 : decode cX7_linesWithout 11 = .ok (.iconst (-1), 1) := by decide +kernel
theorem dX7_linesWithout_12 : decode cX7_linesWithout 12 = .ok (.goto 16, 3) := by decide +kernel
theorem dX7_linesWithout_15 : decode cX7_linesWithout 15 = .ok (.aload_n 0, 1) := by decide +kernel
theorem dX7_linesWithout_16 : decode cX7_linesWithout 16 = .ok (.aload_n 0, 1) := by decide +kernel
theorem dX7_linesWithout_17 : decode cX7_linesWithout 17 = .ok (.getfield 13, 3) := by decide +kernel
theorem dX7_linesWithout_20 : decode cX7_linesWithout 20 = .ok (.iload_n 2, 1) := by decide +kernel
theorem dX7_linesWithout_21 : decode cX7_linesWithout 21 = .ok (.invokestatic 130, 3) := by decide +kernel
theorem dX7_linesWithout_24 : decode cX7_linesWithout 24 = .ok (.iload_n 1, 1) := by decide +kernel
theorem dX7_linesWithout_25 : decode cX7_linesWithout 25 = .ok (.invokevirtual 258, 3) := by decide +kernel
theorem dX7_linesWithout_28 : decode cX7_linesWithout 28 = .ok (.ireturn, 1) := by decide +kernel
theorem dX7_isOverBy_0 : decode cX7_isOverBy 0 = .ok (.aload_n 0, 1) := by decide +kernel
theorem dX7_isOverBy_1 : decode cX7_isOverBy 1 = .ok (.iload_n 1, 1) := by decide +kernel
theorem dX7_isOverBy_2 : decode cX7_isOverBy 2 = .ok (.invokevirtual 264, 3) := by decide +kernel
theorem dX7_isOverBy_5 : decode cX7_isOverBy 5 = .ok (.aload_n 0, 1) := by decide +kernel
theorem dX7_isOverBy_6 : decode cX7_isOverBy 6 = .ok (.getfield 13, 3) := by decide +kernel
theorem dX7_isOverBy_9 : decode cX7_isOverBy 9 = .ok (.if_icmp .le 7, 3) := by decide +kernel
theorem dX7_isOverBy_12 : decode cX7_isOverBy 12 = .ok (.iconst 1, 1) := by decide +kernel
theorem dX7_isOverBy_13 : decode cX7_isOverBy 13 = .ok (.goto 4, 3) := by decide +kernel
theorem dX7_isOverBy_16 : decode cX7_isOverBy 16 = .ok (.iconst 0, 1) := by decide +kernel
theorem dX7_isOverBy_17 : decode cX7_isOverBy 17 = .ok (.ireturn, 1) := by decide +kernel
theorem dX7_spareOf_0 : decode cX7_spareOf 0 = .ok (.aload_n 0, 1) := by decide +kernel
theorem dX7_spareOf_1 : decode cX7_spareOf 1 = .ok (.invokevirtual 243, 3) := by decide +kernel
theorem dX7_spareOf_4 : decode cX7_spareOf 4 = .ok (.aload_n 0, 1) := by decide +kernel
theorem dX7_spareOf_5 : decode cX7_spareOf 5 = .ok (.iconst 0, 1) := by decide +kernel
theorem dX7_spareOf_6 : decode cX7_spareOf 6 = .ok (.invokevirtual 267, 3) := by decide +kernel
theorem dX7_spareOf_9 : decode cX7_spareOf 9 = .ok (.istore_n 1, 1) := by decide +kernel
theorem dX7_spareOf_10 : decode cX7_spareOf 10 = .ok (.iconst 0, 1) := by decide +kernel
theorem dX7_spareOf_11 : decode cX7_spareOf 11 = .ok (.istore_n 2, 1) := by decide +kernel
theorem dX7_spareOf_12 : decode cX7_spareOf 12 = .ok (.iconst 0, 1) := by decide +kernel
theorem dX7_spareOf_13 : decode cX7_spareOf 13 = .ok (.istore_n 3, 1) := by decide +kernel
theorem dX7_spareOf_14 : decode cX7_spareOf 14 = .ok (.iload_n 3, 1) := by decide +kernel
theorem dX7_spareOf_15 : decode cX7_spareOf 15 = .ok (.aload_n 0, 1) := by decide +kernel
theorem dX7_spareOf_16 : decode cX7_spareOf 16 = .ok (.getfield 96, 3) := by decide +kernel
theorem dX7_spareOf_19 : decode cX7_spareOf 19 = .ok (.if_icmp .ge 52, 3) := by decide +kernel
theorem dX7_spareOf_22 : decode cX7_spareOf 22 = .ok (.iload_n 1, 1) := by decide +kernel
theorem dX7_spareOf_23 : decode cX7_spareOf 23 = .ok (.iconst (-1), 1) := by decide +kernel
theorem dX7_spareOf_24 : decode cX7_spareOf 24 = .ok (.if_icmp .eq 47, 3) := by decide +kernel
theorem dX7_spareOf_27 : decode cX7_spareOf 27 = .ok (.iconst 1, 1) := by decide +kernel
theorem dX7_spareOf_28 : decode cX7_spareOf 28 = .ok (.iload_n 3, 1) := by decide +kernel
theorem dX7_spareOf_29 : decode cX7_spareOf 29 = .ok (.ishl, 1) := by decide +kernel
theorem dX7_spareOf_30 : decode cX7_spareOf 30 = .ok (.istore 4, 2) := by decide +kernel
theorem dX7_spareOf_32 : decode cX7_spareOf 32 = .ok (.iload_n 2, 1) := by decide +kernel
theorem dX7_spareOf_33 : decode cX7_spareOf 33 = .ok (.aload_n 0, 1) := by decide +kernel
theorem dX7_spareOf_34 : decode cX7_spareOf 34 = .ok (.iload 4, 2) := by decide +kernel
theorem dX7_spareOf_36 : decode cX7_spareOf 36 = .ok (.invokevirtual 267, 3) := by decide +kernel
theorem dX7_spareOf_39 : decode cX7_spareOf 39 = .ok (.iload_n 1, 1) := by decide +kernel
theorem dX7_spareOf_40 : decode cX7_spareOf 40 = .ok (.if_icmp .ne 22, 3) := by decide +kernel
theorem dX7_spareOf_43 : decode cX7_spareOf 43 = .ok (.aload_n 0, 1) := by decide +kernel
theorem dX7_spareOf_44 : decode cX7_spareOf 44 = .ok (.iload 4, 2) := by decide +kernel
theorem dX7_spareOf_46 : decode cX7_spareOf 46 = .ok (.invokevirtual 270, 3) := by decide +kernel
theorem dX7_spareOf_49 : decode cX7_spareOf 49 = .ok (.aload_n 0, 1) := by decide +kernel
theorem dX7_spareOf_50 : decode cX7_spareOf 50 = .ok (.iconst 0, 1) := by decide +kernel
theorem dX7_spareOf_51 : decode cX7_spareOf 51 = .ok (.invokevirtual 270, 3) := by decide +kernel
theorem dX7_spareOf_54 : decode cX7_spareOf 54 = .ok (.if_icmp .ne 8, 3) := by decide +kernel
theorem dX7_spareOf_57 : decode cX7_spareOf 57 = .ok (.iload 4, 2) := by decide +kernel
theorem dX7_spareOf_59 : decode cX7_spareOf 59 = .ok (.goto 4, 3) := by decide +kernel
theorem dX7_spareOf_62 : decode cX7_spareOf 62 = .ok (.iconst 0, 1) := by decide +kernel
theorem dX7_spareOf_63 : decode cX7_spareOf 63 = .ok (.ior, 1) := by decide +kernel
theorem dX7_spareOf_64 : decode cX7_spareOf 64 = .ok (.istore_n 2, 1) := by decide +kernel
theorem dX7_spareOf_65 : decode cX7_spareOf 65 = .ok (.iinc 3 1, 3) := by decide +kernel
theorem dX7_spareOf_68 : decode cX7_spareOf 68 = .ok (.goto (-54), 3) := by decide +kernel
theorem dX7_spareOf_71 : decode cX7_spareOf 71 = .ok (.iload_n 2, 1) := by decide +kernel
theorem dX7_spareOf_72 : decode cX7_spareOf 72 = .ok (.ireturn, 1) := by decide +kernel
theorem dX7_spare_0 : decode cX7_spare 0 = .ok (.aload_n 0, 1) := by decide +kernel
theorem dX7_spare_1 : decode cX7_spare 1 = .ok (.invokevirtual 273, 3) := by decide +kernel
theorem dX7_spare_4 : decode cX7_spare 4 = .ok (.ireturn, 1) := by decide +kernel
theorem dX7_meets_0 : decode cX7_meets 0 = .ok (.aload_n 0, 1) := by decide +kernel
theorem dX7_meets_1 : decode cX7_meets 1 = .ok (.iload_n 1, 1) := by decide +kernel
theorem dX7_meets_2 : decode cX7_meets 2 = .ok (.putfield 276, 3) := by decide +kernel
theorem dX7_meets_5 : decode cX7_meets 5 = .ok (.bipush (-10), 2) := by decide +kernel
theorem dX7_meets_7 : decode cX7_meets 7 = .ok (.iload_n 1, 1) := by decide +kernel
theorem dX7_meets_8 : decode cX7_meets 8 = .ok (.isub, 1) := by decide +kernel
theorem dX7_meets_9 : decode cX7_meets 9 = .ok (.ireturn, 1) := by decide +kernel
theorem dX7_isSheet_0 : decode cX7_isSheet 0 = .ok (.iload_n 0, 1) := by decide +kernel
theorem dX7_isSheet_1 : decode cX7_isSheet 1 = .ok (.iconst 0, 1) := by decide +kernel
theorem dX7_isSheet_2 : decode cX7_isSheet 2 = .ok (.iconst 3, 1) := by decide +kernel
theorem dX7_isSheet_3 : decode cX7_isSheet 3 = .ok (.invokestatic 75, 3) := by decide +kernel
theorem dX7_isSheet_6 : decode cX7_isSheet 6 = .ok (.ireturn, 1) := by decide +kernel
theorem dX7_sheet_0 : decode cX7_sheet 0 = .ok (.iload_n 1, 1) := by decide +kernel
theorem dX7_sheet_1 : decode cX7_sheet 1 = .ok (.invokestatic 82, 3) := by decide +kernel
theorem dX7_sheet_4 : decode cX7_sheet 4 = .ok (.ifCond .eq 18, 3) := by decide +kernel
theorem dX7_sheet_7 : decode cX7_sheet 7 = .ok (.iload_n 2, 1) := by decide +kernel
theorem dX7_sheet_8 : decode cX7_sheet 8 = .ok (.iconst 0, 1) := by decide +kernel
theorem dX7_sheet_9 : decode cX7_sheet 9 = .ok (.iconst 2, 1) := by decide +kernel
theorem dX7_sheet_10 : decode cX7_sheet 10 = .ok (.invokestatic 75, 3) := by decide +kernel
theorem dX7_sheet_13 : decode cX7_sheet 13 = .ok (.ifCond .eq 9, 3) := by decide +kernel
theorem dX7_sheet_16 : decode cX7_sheet 16 = .ok (.iload_n 3, 1) := by decide +kernel
theorem dX7_sheet_17 : decode cX7_sheet 17 = .ok (.bipush 60, 2) := by decide +kernel
theorem dX7_sheet_19 : decode cX7_sheet 19 = .ok (.if_icmp .le 6, 3) := by decide +kernel
theorem dX7_sheet_22 : decode cX7_sheet 22 = .ok (.bipush (-2), 2) := by decide +kernel
theorem dX7_sheet_24 : decode cX7_sheet 24 = .ok (.ireturn, 1) := by decide +kernel
theorem dX7_sheet_25 : decode cX7_sheet 25 = .ok (.iload_n 3, 1) := by decide +kernel
theorem dX7_sheet_26 : decode cX7_sheet 26 = .ok (.ifCond .ge 9, 3) := by decide +kernel
theorem dX7_sheet_29 : decode cX7_sheet 29 = .ok (.aload_n 0, 1) := by decide +kernel
theorem dX7_sheet_30 : decode cX7_sheet 30 = .ok (.iconst 5, 1) := by decide +kernel
theorem dX7_sheet_31 : decode cX7_sheet 31 = .ok (.invokevirtual 86, 3) := by decide +kernel
theorem dX7_sheet_34 : decode cX7_sheet 34 = .ok (.ireturn, 1) := by decide +kernel
theorem dX7_sheet_35 : decode cX7_sheet 35 = .ok (.aload_n 0, 1) := by decide +kernel
theorem dX7_sheet_36 : decode cX7_sheet 36 = .ok (.getfield 59, 3) := by decide +kernel
theorem dX7_sheet_39 : decode cX7_sheet 39 = .ok (.iload_n 1, 1) := by decide +kernel
theorem dX7_sheet_40 : decode cX7_sheet 40 = .ok (.iconst 1, 1) := by decide +kernel
theorem dX7_sheet_41 : decode cX7_sheet 41 = .ok (.bastore, 1) := by decide +kernel
theorem dX7_sheet_42 : decode cX7_sheet 42 = .ok (.aload_n 0, 1) := by decide +kernel
theorem dX7_sheet_43 : decode cX7_sheet 43 = .ok (.getfield 63, 3) := by decide +kernel
theorem dX7_sheet_46 : decode cX7_sheet 46 = .ok (.iload_n 1, 1) := by decide +kernel
theorem dX7_sheet_47 : decode cX7_sheet 47 = .ok (.iload_n 2, 1) := by decide +kernel
theorem dX7_sheet_48 : decode cX7_sheet 48 = .ok (.iastore, 1) := by decide +kernel
theorem dX7_sheet_49 : decode cX7_sheet 49 = .ok (.aload_n 0, 1) := by decide +kernel
theorem dX7_sheet_50 : decode cX7_sheet 50 = .ok (.getfield 66, 3) := by decide +kernel
theorem dX7_sheet_53 : decode cX7_sheet 53 = .ok (.iload_n 1, 1) := by decide +kernel
theorem dX7_sheet_54 : decode cX7_sheet 54 = .ok (.iload_n 3, 1) := by decide +kernel
theorem dX7_sheet_55 : decode cX7_sheet 55 = .ok (.iastore, 1) := by decide +kernel
theorem dX7_sheet_56 : decode cX7_sheet 56 = .ok (.iconst 0, 1) := by decide +kernel
theorem dX7_sheet_57 : decode cX7_sheet 57 = .ok (.istore 4, 2) := by decide +kernel
theorem dX7_sheet_59 : decode cX7_sheet 59 = .ok (.iload 4, 2) := by decide +kernel
theorem dX7_sheet_61 : decode cX7_sheet 61 = .ok (.bipush 60, 2) := by decide +kernel
theorem dX7_sheet_63 : decode cX7_sheet 63 = .ok (.if_icmp .ge 22, 3) := by decide +kernel
theorem dX7_sheet_66 : decode cX7_sheet 66 = .ok (.aload_n 0, 1) := by decide +kernel
theorem dX7_sheet_67 : decode cX7_sheet 67 = .ok (.getfield 69, 3) := by decide +kernel
theorem dX7_sheet_70 : decode cX7_sheet 70 = .ok (.bipush 60, 2) := by decide +kernel
theorem dX7_sheet_72 : decode cX7_sheet 72 = .ok (.iload_n 1, 1) := by decide +kernel
theorem dX7_sheet_73 : decode cX7_sheet 73 = .ok (.imul, 1) := by decide +kernel
theorem dX7_sheet_74 : decode cX7_sheet 74 = .ok (.iload 4, 2) := by decide +kernel
theorem dX7_sheet_76 : decode cX7_sheet 76 = .ok (.iadd, 1) := by decide +kernel
theorem dX7_sheet_77 : decode cX7_sheet 77 = .ok (.iconst 0, 1) := by decide +kernel
theorem dX7_sheet_78 : decode cX7_sheet 78 = .ok (.iastore, 1) := by decide +kernel
theorem dX7_sheet_79 : decode cX7_sheet 79 = .ok (.iinc 4 1, 3) := by decide +kernel
theorem dX7_sheet_82 : decode cX7_sheet 82 = .ok (.goto (-23), 3) := by decide +kernel
theorem dX7_sheet_85 : decode cX7_sheet 85 = .ok (.iload_n 3, 1) := by decide +kernel
theorem dX7_sheet_86 : decode cX7_sheet 86 = .ok (.ireturn, 1) := by decide +kernel
theorem dX7_lose_0 : decode cX7_lose 0 = .ok (.iload_n 1, 1) := by decide +kernel
theorem dX7_lose_1 : decode cX7_lose 1 = .ok (.invokestatic 82, 3) := by decide +kernel
theorem dX7_lose_4 : decode cX7_lose 4 = .ok (.ifCond .ne 6, 3) := by decide +kernel
theorem dX7_lose_7 : decode cX7_lose 7 = .ok (.bipush (-2), 2) := by decide +kernel
theorem dX7_lose_9 : decode cX7_lose 9 = .ok (.ireturn, 1) := by decide +kernel
theorem dX7_lose_10 : decode cX7_lose 10 = .ok (.aload_n 0, 1) := by decide +kernel
theorem dX7_lose_11 : decode cX7_lose 11 = .ok (.getfield 59, 3) := by decide +kernel
theorem dX7_lose_14 : decode cX7_lose 14 = .ok (.iload_n 1, 1) := by decide +kernel
theorem dX7_lose_15 : decode cX7_lose 15 = .ok (.baload, 1) := by decide +kernel
theorem dX7_lose_16 : decode cX7_lose 16 = .ok (.ifCond .ne 9, 3) := by decide +kernel
theorem dX7_lose_19 : decode cX7_lose 19 = .ok (.aload_n 0, 1) := by decide +kernel
theorem dX7_lose_20 : decode cX7_lose 20 = .ok (.iconst 1, 1) := by decide +kernel
theorem dX7_lose_21 : decode cX7_lose 21 = .ok (.invokevirtual 86, 3) := by decide +kernel
theorem dX7_lose_24 : decode cX7_lose 24 = .ok (.ireturn, 1) := by decide +kernel
theorem dX7_lose_25 : decode cX7_lose 25 = .ok (.aload_n 0, 1) := by decide +kernel
theorem dX7_lose_26 : decode cX7_lose 26 = .ok (.getfield 59, 3) := by decide +kernel
theorem dX7_lose_29 : decode cX7_lose 29 = .ok (.iload_n 1, 1) := by decide +kernel
theorem dX7_lose_30 : decode cX7_lose 30 = .ok (.iconst 0, 1) := by decide +kernel
theorem dX7_lose_31 : decode cX7_lose 31 = .ok (.bastore, 1) := by decide +kernel
theorem dX7_lose_32 : decode cX7_lose 32 = .ok (.aload_n 0, 1) := by decide +kernel
theorem dX7_lose_33 : decode cX7_lose 33 = .ok (.getfield 66, 3) := by decide +kernel
theorem dX7_lose_36 : decode cX7_lose 36 = .ok (.iload_n 1, 1) := by decide +kernel
theorem dX7_lose_37 : decode cX7_lose 37 = .ok (.iaload, 1) := by decide +kernel
theorem dX7_lose_38 : decode cX7_lose 38 = .ok (.ireturn, 1) := by decide +kernel
theorem dX7_lacks_0 : decode cX7_lacks 0 = .ok (.aload_n 0, 1) := by decide +kernel
theorem dX7_lacks_1 : decode cX7_lacks 1 = .ok (.getfield 59, 3) := by decide +kernel
theorem dX7_lacks_4 : decode cX7_lacks 4 = .ok (.iload_n 1, 1) := by decide +kernel
theorem dX7_lacks_5 : decode cX7_lacks 5 = .ok (.baload, 1) := by decide +kernel
theorem dX7_lacks_6 : decode cX7_lacks 6 = .ok (.ifCond .ne 7, 3) := by decide +kernel
theorem dX7_lacks_9 : decode cX7_lacks 9 = .ok (.iconst 1, 1) := by decide +kernel
theorem dX7_lacks_10 : decode cX7_lacks 10 = .ok (.goto 38, 3) := by decide +kernel
theorem dX7_lacks_13 : decode cX7_lacks 13 = .ok (.aload_n 0, 1) := by decide +kernel
theorem dX7_lacks_14 : decode cX7_lacks 14 = .ok (.getfield 63, 3) := by decide +kernel
theorem dX7_lacks_17 : decode cX7_lacks 17 = .ok (.iload_n 1, 1) := by decide +kernel
theorem dX7_lacks_18 : decode cX7_lacks 18 = .ok (.iaload, 1) := by decide +kernel
theorem dX7_lacks_19 : decode cX7_lacks 19 = .ok (.iload_n 2, 1) := by decide +kernel
theorem dX7_lacks_20 : decode cX7_lacks 20 = .ok (.if_icmp .eq 7, 3) := by decide +kernel
theorem dX7_lacks_23 : decode cX7_lacks 23 = .ok (.iconst 3, 1) := by decide +kernel
theorem dX7_lacks_24 : decode cX7_lacks 24 = .ok (.goto 24, 3) := by decide +kernel
theorem dX7_lacks_27 : decode cX7_lacks 27 = .ok (.iload_n 3, 1) := by decide +kernel
theorem dX7_lacks_28 : decode cX7_lacks 28 = .ok (.iconst 0, 1) := by decide +kernel
theorem dX7_lacks_29 : decode cX7_lacks 29 = .ok (.aload_n 0, 1) := by decide +kernel
theorem dX7_lacks_30 : decode cX7_lacks 30 = .ok (.getfield 66, 3) := by decide +kernel
theorem dX7_lacks_33 : decode cX7_lacks 33 = .ok (.iload_n 1, 1) := by decide +kernel
theorem dX7_lacks_34 : decode cX7_lacks 34 = .ok (.iaload, 1) := by decide +kernel
theorem dX7_lacks_35 : decode cX7_lacks 35 = .ok (.iconst 1, 1) := by decide +kernel
theorem dX7_lacks_36 : decode cX7_lacks 36 = .ok (.isub, 1) := by decide +kernel
theorem dX7_lacks_37 : decode cX7_lacks 37 = .ok (.invokestatic 75, 3) := by decide +kernel
theorem dX7_lacks_40 : decode cX7_lacks 40 = .ok (.ifCond .eq 7, 3) := by decide +kernel
theorem dX7_lacks_43 : decode cX7_lacks 43 = .ok (.iconst 0, 1) := by decide +kernel
theorem dX7_lacks_44 : decode cX7_lacks 44 = .ok (.goto 4, 3) := by decide +kernel
theorem dX7_lacks_47 : decode cX7_lacks 47 = .ok (.iconst 2, 1) := by decide +kernel
theorem dX7_lacks_48 : decode cX7_lacks 48 = .ok (.ireturn, 1) := by decide +kernel
theorem dX7_keep_0 : decode cX7_keep 0 = .ok (.aload_n 0, 1) := by decide +kernel
theorem dX7_keep_1 : decode cX7_keep 1 = .ok (.getfield 69, 3) := by decide +kernel
theorem dX7_keep_4 : decode cX7_keep 4 = .ok (.bipush 60, 2) := by decide +kernel
theorem dX7_keep_6 : decode cX7_keep 6 = .ok (.iload_n 1, 1) := by decide +kernel
theorem dX7_keep_7 : decode cX7_keep 7 = .ok (.imul, 1) := by decide +kernel
theorem dX7_keep_8 : decode cX7_keep 8 = .ok (.iload_n 2, 1) := by decide +kernel
theorem dX7_keep_9 : decode cX7_keep 9 = .ok (.iadd, 1) := by decide +kernel
theorem dX7_keep_10 : decode cX7_keep 10 = .ok (.aload_n 0, 1) := by decide +kernel
theorem dX7_keep_11 : decode cX7_keep 11 = .ok (.getfield 63, 3) := by decide +kernel
theorem dX7_keep_14 : decode cX7_keep 14 = .ok (.iload_n 1, 1) := by decide +kernel
theorem dX7_keep_15 : decode cX7_keep 15 = .ok (.iaload, 1) := by decide +kernel
theorem dX7_keep_16 : decode cX7_keep 16 = .ok (.ifCond .ne 8, 3) := by decide +kernel
theorem dX7_keep_19 : decode cX7_keep 19 = .ok (.iload_n 3, 1) := by decide +kernel
theorem dX7_keep_20 : decode cX7_keep 20 = .ok (.i2b, 1) := by decide +kernel
theorem dX7_keep_21 : decode cX7_keep 21 = .ok (.goto 19, 3) := by decide +kernel
theorem dX7_keep_24 : decode cX7_keep 24 = .ok (.aload_n 0, 1) := by decide +kernel
theorem dX7_keep_25 : decode cX7_keep 25 = .ok (.getfield 63, 3) := by decide +kernel
theorem dX7_keep_28 : decode cX7_keep 28 = .ok (.iload_n 1, 1) := by decide +kernel
theorem dX7_keep_29 : decode cX7_keep 29 = .ok (.iaload, 1) := by decide +kernel
theorem dX7_keep_30 : decode cX7_keep 30 = .ok (.iconst 1, 1) := by decide +kernel
theorem dX7_keep_31 : decode cX7_keep 31 = .ok (.if_icmp .ne 8, 3) := by decide +kernel
theorem dX7_keep_34 : decode cX7_keep 34 = .ok (.iload_n 3, 1) := by decide +kernel
theorem dX7_keep_35 : decode cX7_keep 35 = .ok (.i2s, 1) := by decide +kernel
theorem dX7_keep_36 : decode cX7_keep 36 = .ok (.goto 4, 3) := by decide +kernel
theorem dX7_keep_39 : decode cX7_keep 39 = .ok (.iload_n 3, 1) := by decide +kernel
theorem dX7_keep_40 : decode cX7_keep 40 = .ok (.iastore, 1) := by decide +kernel
theorem dX7_keep_41 : decode cX7_keep 41 = .ok (.return_, 1) := by decide +kernel
theorem dX7_put_0 : decode cX7_put 0 = .ok (.iload_n 1, 1) := by decide +kernel
theorem dX7_put_1 : decode cX7_put 1 = .ok (.invokestatic 82, 3) := by decide +kernel
theorem dX7_put_4 : decode cX7_put 4 = .ok (.ifCond .eq 12, 3) := by decide +kernel
theorem dX7_put_7 : decode cX7_put 7 = .ok (.iload_n 2, 1) := by decide +kernel
theorem dX7_put_8 : decode cX7_put 8 = .ok (.iconst 0, 1) := by decide +kernel
theorem dX7_put_9 : decode cX7_put 9 = .ok (.iconst 2, 1) := by decide +kernel
theorem dX7_put_10 : decode cX7_put 10 = .ok (.invokestatic 75, 3) := by decide +kernel
theorem dX7_put_13 : decode cX7_put 13 = .ok (.ifCond .ne 6, 3) := by decide +kernel
theorem dX7_put_16 : decode cX7_put 16 = .ok (.bipush (-2), 2) := by decide +kernel
theorem dX7_put_18 : decode cX7_put 18 = .ok (.ireturn, 1) := by decide +kernel
theorem dX7_put_19 : decode cX7_put 19 = .ok (.aload_n 0, 1) := by decide +kernel
theorem dX7_put_20 : decode cX7_put 20 = .ok (.iload_n 1, 1) := by decide +kernel
theorem dX7_put_21 : decode cX7_put 21 = .ok (.iload_n 2, 1) := by decide +kernel
theorem dX7_put_22 : decode cX7_put 22 = .ok (.iload_n 3, 1) := by decide +kernel
theorem dX7_put_23 : decode cX7_put 23 = .ok (.invokevirtual 279, 3) := by decide +kernel
theorem dX7_put_26 : decode cX7_put 26 = .ok (.istore 5, 2) := by decide +kernel
theorem dX7_put_28 : decode cX7_put 28 = .ok (.iload 5, 2) := by decide +kernel
theorem dX7_put_30 : decode cX7_put 30 = .ok (.ifCond .le 10, 3) := by decide +kernel
theorem dX7_put_33 : decode cX7_put 33 = .ok (.aload_n 0, 1) := by decide +kernel
theorem dX7_put_34 : decode cX7_put 34 = .ok (.iload 5, 2) := by decide +kernel
theorem dX7_put_36 : decode cX7_put 36 = .ok (.invokevirtual 86, 3) := by decide +kernel
theorem dX7_put_39 : decode cX7_put 39 = .ok (.ireturn, 1) := by decide +kernel
theorem dX7_put_40 : decode cX7_put 40 = .ok (.aload_n 0, 1) := by decide +kernel
theorem dX7_put_41 : decode cX7_put 41 = .ok (.iload_n 1, 1) := by decide +kernel
theorem dX7_put_42 : decode cX7_put 42 = .ok (.iload_n 3, 1) := by decide +kernel
theorem dX7_put_43 : decode cX7_put 43 = .ok (.iload 4, 2) := by decide +kernel
theorem dX7_put_45 : decode cX7_put 45 = .ok (.invokevirtual 282, 3) := by decide +kernel
theorem dX7_put_48 : decode cX7_put 48 = .ok (.iconst 1, 1) := by decide +kernel
theorem dX7_put_49 : decode cX7_put 49 = .ok (.ireturn, 1) := by decide +kernel
theorem dX7_get_0 : decode cX7_get 0 = .ok (.iload_n 1, 1) := by decide +kernel
theorem dX7_get_1 : decode cX7_get 1 = .ok (.invokestatic 82, 3) := by decide +kernel
theorem dX7_get_4 : decode cX7_get 4 = .ok (.ifCond .eq 12, 3) := by decide +kernel
theorem dX7_get_7 : decode cX7_get 7 = .ok (.iload_n 2, 1) := by decide +kernel
theorem dX7_get_8 : decode cX7_get 8 = .ok (.iconst 0, 1) := by decide +kernel
theorem dX7_get_9 : decode cX7_get 9 = .ok (.iconst 2, 1) := by decide +kernel
theorem dX7_get_10 : decode cX7_get 10 = .ok (.invokestatic 75, 3) := by decide +kernel
theorem dX7_get_13 : decode cX7_get 13 = .ok (.ifCond .ne 7, 3) := by decide +kernel
theorem dX7_get_16 : decode cX7_get 16 = .ok (.ldc_w 285, 3) := by decide +kernel
theorem dX7_get_19 : decode cX7_get 19 = .ok (.ireturn, 1) := by decide +kernel
theorem dX7_get_20 : decode cX7_get 20 = .ok (.aload_n 0, 1) := by decide +kernel
theorem dX7_get_21 : decode cX7_get 21 = .ok (.iload_n 1, 1) := by decide +kernel
theorem dX7_get_22 : decode cX7_get 22 = .ok (.iload_n 2, 1) := by decide +kernel
theorem dX7_get_23 : decode cX7_get 23 = .ok (.iload_n 3, 1) := by decide +kernel
theorem dX7_get_24 : decode cX7_get 24 = .ok (.invokevirtual 279, 3) := by decide +kernel
theorem dX7_get_27 : decode cX7_get 27 = .ok (.istore 4, 2) := by decide +kernel
theorem dX7_get_29 : decode cX7_get 29 = .ok (.iload 4, 2) := by decide +kernel
theorem dX7_get_31 : decode cX7_get 31 = .ok (.ifCond .le 13, 3) := by decide +kernel
theorem dX7_get_34 : decode cX7_get 34 = .ok (.aload_n 0, 1) := by decide +kernel
theorem dX7_get_35 : decode cX7_get 35 = .ok (.iload 4, 2) := by decide +kernel
theorem dX7_get_37 : decode cX7_get 37 = .ok (.putfield 276, 3) := by decide +kernel
theorem dX7_get_40 : decode cX7_get 40 = .ok (.ldc_w 285, 3) := by decide +kernel
theorem dX7_get_43 : decode cX7_get 43 = .ok (.ireturn, 1) := by decide +kernel
theorem dX7_get_44 : decode cX7_get 44 = .ok (.aload_n 0, 1) := by decide +kernel
theorem dX7_get_45 : decode cX7_get 45 = .ok (.getfield 69, 3) := by decide +kernel
theorem dX7_get_48 : decode cX7_get 48 = .ok (.bipush 60, 2) := by decide +kernel
theorem dX7_get_50 : decode cX7_get 50 = .ok (.iload_n 1, 1) := by decide +kernel
theorem dX7_get_51 : decode cX7_get 51 = .ok (.imul, 1) := by decide +kernel
theorem dX7_get_52 : decode cX7_get 52 = .ok (.iload_n 3, 1) := by decide +kernel
theorem dX7_get_53 : decode cX7_get 53 = .ok (.iadd, 1) := by decide +kernel
theorem dX7_get_54 : decode cX7_get 54 = .ok (.iaload, 1) := by decide +kernel
theorem dX7_get_55 : decode cX7_get 55 = .ok (.ireturn, 1) := by decide +kernel
theorem dX7_copy_0 : decode cX7_copy 0 = .ok (.iload_n 1, 1) := by decide +kernel
theorem dX7_copy_1 : decode cX7_copy 1 = .ok (.invokestatic 82, 3) := by decide +kernel
theorem dX7_copy_4 : decode cX7_copy 4 = .ok (.ifCond .eq 10, 3) := by decide +kernel
theorem dX7_copy_7 : decode cX7_copy 7 = .ok (.iload_n 3, 1) := by decide +kernel
theorem dX7_copy_8 : decode cX7_copy 8 = .ok (.invokestatic 82, 3) := by decide +kernel
theorem dX7_copy_11 : decode cX7_copy 11 = .ok (.ifCond .ne 6, 3) := by decide +kernel
theorem dX7_copy_14 : decode cX7_copy 14 = .ok (.bipush (-2), 2) := by decide +kernel
theorem dX7_copy_16 : decode cX7_copy 16 = .ok (.ireturn, 1) := by decide +kernel
theorem dX7_copy_17 : decode cX7_copy 17 = .ok (.aload_n 0, 1) := by decide +kernel
theorem dX7_copy_18 : decode cX7_copy 18 = .ok (.getfield 59, 3) := by decide +kernel
theorem dX7_copy_21 : decode cX7_copy 21 = .ok (.iload_n 1, 1) := by decide +kernel
theorem dX7_copy_22 : decode cX7_copy 22 = .ok (.baload, 1) := by decide +kernel
theorem dX7_copy_23 : decode cX7_copy 23 = .ok (.ifCond .eq 12, 3) := by decide +kernel
theorem dX7_copy_26 : decode cX7_copy 26 = .ok (.aload_n 0, 1) := by decide +kernel
theorem dX7_copy_27 : decode cX7_copy 27 = .ok (.getfield 59, 3) := by decide +kernel
theorem dX7_copy_30 : decode cX7_copy 30 = .ok (.iload_n 3, 1) := by decide +kernel
theorem dX7_copy_31 : decode cX7_copy 31 = .ok (.baload, 1) := by decide +kernel
theorem dX7_copy_32 : decode cX7_copy 32 = .ok (.ifCond .ne 9, 3) := by decide +kernel
theorem dX7_copy_35 : decode cX7_copy 35 = .ok (.aload_n 0, 1) := by decide +kernel
theorem dX7_copy_36 : decode cX7_copy 36 = .ok (.iconst 1, 1) := by decide +kernel
theorem dX7_copy_37 : decode cX7_copy 37 = .ok (.invokevirtual 86, 3) := by decide +kernel
theorem dX7_copy_40 : decode cX7_copy 40 = .ok (.ireturn, 1) := by decide +kernel
theorem dX7_copy_41 : decode cX7_copy 41 = .ok (.aload_n 0, 1) := by decide +kernel
theorem dX7_copy_42 : decode cX7_copy 42 = .ok (.getfield 63, 3) := by decide +kernel
theorem dX7_copy_45 : decode cX7_copy 45 = .ok (.iload_n 1, 1) := by decide +kernel
theorem dX7_copy_46 : decode cX7_copy 46 = .ok (.iaload, 1) := by decide +kernel
theorem dX7_copy_47 : decode cX7_copy 47 = .ok (.aload_n 0, 1) := by decide +kernel
theorem dX7_copy_48 : decode cX7_copy 48 = .ok (.getfield 63, 3) := by decide +kernel
theorem dX7_copy_51 : decode cX7_copy 51 = .ok (.iload_n 3, 1) := by decide +kernel
theorem dX7_copy_52 : decode cX7_copy 52 = .ok (.iaload, 1) := by decide +kernel
theorem dX7_copy_53 : decode cX7_copy 53 = .ok (.if_icmp .eq 9, 3) := by decide +kernel
theorem dX7_copy_56 : decode cX7_copy 56 = .ok (.aload_n 0, 1) := by decide +kernel
theorem dX7_copy_57 : decode cX7_copy 57 = .ok (.iconst 4, 1) := by decide +kernel
theorem dX7_copy_58 : decode cX7_copy 58 = .ok (.invokevirtual 86, 3) := by decide +kernel
theorem dX7_copy_61 : decode cX7_copy 61 = .ok (.ireturn, 1) := by decide +kernel
theorem dX7_copy_62 : decode cX7_copy 62 = .ok (.iload_n 2, 1) := by decide +kernel
theorem dX7_copy_63 : decode cX7_copy 63 = .ok (.ifCond .lt 48, 3) := by decide +kernel
theorem dX7_copy_66 : decode cX7_copy 66 = .ok (.iload 4, 2) := by decide +kernel
theorem dX7_copy_68 : decode cX7_copy 68 = .ok (.ifCond .lt 43, 3) := by decide +kernel
theorem dX7_copy_71 : decode cX7_copy 71 = .ok (.iload 5, 2) := by decide +kernel
theorem dX7_copy_73 : decode cX7_copy 73 = .ok (.ifCond .lt 38, 3) := by decide +kernel
theorem dX7_copy_76 : decode cX7_copy 76 = .ok (.iload_n 2, 1) := by decide +kernel
theorem dX7_copy_77 : decode cX7_copy 77 = .ok (.i2l, 1) := by decide +kernel
theorem dX7_copy_78 : decode cX7_copy 78 = .ok (.iload 5, 2) := by decide +kernel
theorem dX7_copy_80 : decode cX7_copy 80 = .ok (.i2l, 1) := by decide +kernel
theorem dX7_copy_81 : decode cX7_copy 81 = .ok (.ladd, 1) := by decide +kernel
theorem dX7_copy_82 : decode cX7_copy 82 = .ok (.aload_n 0, 1) := by decide +kernel
theorem dX7_copy_83 : decode cX7_copy 83 = .ok (.getfield 66, 3) := by decide +kernel
theorem dX7_copy_86 : decode cX7_copy 86 = .ok (.iload_n 1, 1) := by decide +kernel
theorem dX7_copy_87 : decode cX7_copy 87 = .ok (.iaload, 1) := by decide +kernel
theorem dX7_copy_88 : decode cX7_copy 88 = .ok (.i2l, 1) := by decide +kernel
theorem dX7_copy_89 : decode cX7_copy 89 = .ok (.lcmp, 1) := by decide +kernel
theorem dX7_copy_90 : decode cX7_copy 90 = .ok (.ifCond .gt 21, 3) := by decide +kernel
theorem dX7_copy_93 : decode cX7_copy 93 = .ok (.iload 4, 2) := by decide +kernel
theorem dX7_copy_95 : decode cX7_copy 95 = .ok (.i2l, 1) := by decide +kernel
theorem dX7_copy_96 : decode cX7_copy 96 = .ok (.iload 5, 2) := by decide +kernel
theorem dX7_copy_98 : decode cX7_copy 98 = .ok (.i2l, 1) := by decide +kernel
theorem dX7_copy_99 : decode cX7_copy 99 = .ok (.ladd, 1) := by decide +kernel
theorem dX7_copy_100 : decode cX7_copy 100 = .ok (.aload_n 0, 1) := by decide +kernel
theorem dX7_copy_101 : decode cX7_copy 101 = .ok (.getfield 66, 3) := by decide +kernel
theorem dX7_copy_104 : decode cX7_copy 104 = .ok (.iload_n 3, 1) := by decide +kernel
theorem dX7_copy_105 : decode cX7_copy 105 = .ok (.iaload, 1) := by decide +kernel
theorem dX7_copy_106 : decode cX7_copy 106 = .ok (.i2l, 1) := by decide +kernel
theorem dX7_copy_107 : decode cX7_copy 107 = .ok (.lcmp, 1) := by decide +kernel
theorem dX7_copy_108 : decode cX7_copy 108 = .ok (.ifCond .le 9, 3) := by decide +kernel
theorem dX7_copy_111 : decode cX7_copy 111 = .ok (.aload_n 0, 1) := by decide +kernel
theorem dX7_copy_112 : decode cX7_copy 112 = .ok (.iconst 2, 1) := by decide +kernel
theorem dX7_copy_113 : decode cX7_copy 113 = .ok (.invokevirtual 86, 3) := by decide +kernel
theorem dX7_copy_116 : decode cX7_copy 116 = .ok (.ireturn, 1) := by decide +kernel
theorem dX7_copy_117 : decode cX7_copy 117 = .ok (.iconst 0, 1) := by decide +kernel
theorem dX7_copy_118 : decode cX7_copy 118 = .ok (.istore 6, 2) := by decide +kernel
theorem dX7_copy_120 : decode cX7_copy 120 = .ok (.iload 6, 2) := by decide +kernel
theorem dX7_copy_122 : decode cX7_copy 122 = .ok (.iload 5, 2) := by decide +kernel
theorem dX7_copy_124 : decode cX7_copy 124 = .ok (.if_icmp .ge 30, 3) := by decide +kernel
theorem dX7_copy_127 : decode cX7_copy 127 = .ok (.aload_n 0, 1) := by decide +kernel
theorem dX7_copy_128 : decode cX7_copy 128 = .ok (.getfield 72, 3) := by decide +kernel
theorem dX7_copy_131 : decode cX7_copy 131 = .ok (.iload 6, 2) := by decide +kernel
theorem dX7_copy_133 : decode cX7_copy 133 = .ok (.aload_n 0, 1) := by decide +kernel
theorem dX7_copy_134 : decode cX7_copy 134 = .ok (.getfield 69, 3) := by decide +kernel
theorem dX7_copy_137 : decode cX7_copy 137 = .ok (.bipush 60, 2) := by decide +kernel
theorem dX7_copy_139 : decode cX7_copy 139 = .ok (.iload_n 1, 1) := by decide +kernel
theorem dX7_copy_140 : decode cX7_copy 140 = .ok (.imul, 1) := by decide +kernel
theorem dX7_copy_141 : decode cX7_copy 141 = .ok (.iload_n 2, 1) := by decide +kernel
theorem dX7_copy_142 : decode cX7_copy 142 = .ok (.iadd, 1) := by decide +kernel
theorem dX7_copy_143 : decode cX7_copy 143 = .ok (.iload 6, 2) := by decide +kernel
theorem dX7_copy_145 : decode cX7_copy 145 = .ok (.iadd, 1) := by decide +kernel
theorem dX7_copy_146 : decode cX7_copy 146 = .ok (.iaload, 1) := by decide +kernel
theorem dX7_copy_147 : decode cX7_copy 147 = .ok (.iastore, 1) := by decide +kernel
theorem dX7_copy_148 : decode cX7_copy 148 = .ok (.iinc 6 1, 3) := by decide +kernel
theorem dX7_copy_151 : decode cX7_copy 151 = .ok (.goto (-31), 3) := by decide +kernel
theorem dX7_copy_154 : decode cX7_copy 154 = .ok (.iconst 0, 1) := by decide +kernel
theorem dX7_copy_155 : decode cX7_copy 155 = .ok (.istore 6, 2) := by decide +kernel
theorem dX7_copy_157 : decode cX7_copy 157 = .ok (.iload 6, 2) := by decide +kernel
theorem dX7_copy_159 : decode cX7_copy 159 = .ok (.iload 5, 2) := by decide +kernel
theorem dX7_copy_161 : decode cX7_copy 161 = .ok (.if_icmp .ge 31, 3) := by decide +kernel
theorem dX7_copy_164 : decode cX7_copy 164 = .ok (.aload_n 0, 1) := by decide +kernel
theorem dX7_copy_165 : decode cX7_copy 165 = .ok (.getfield 69, 3) := by decide +kernel
theorem dX7_copy_168 : decode cX7_copy 168 = .ok (.bipush 60, 2) := by decide +kernel
theorem dX7_copy_170 : decode cX7_copy 170 = .ok (.iload_n 3, 1) := by decide +kernel
theorem dX7_copy_171 : decode cX7_copy 171 = .ok (.imul, 1) := by decide +kernel
theorem dX7_copy_172 : decode cX7_copy 172 = .ok (.iload 4, 2) := by decide +kernel
theorem dX7_copy_174 : decode cX7_copy 174 = .ok (.iadd, 1) := by decide +kernel
theorem dX7_copy_175 : decode cX7_copy 175 = .ok (.iload 6, 2) := by decide +kernel
theorem dX7_copy_177 : decode cX7_copy 177 = .ok (.iadd, 1) := by decide +kernel
theorem dX7_copy_178 : decode cX7_copy 178 = .ok (.aload_n 0, 1) := by decide +kernel
theorem dX7_copy_179 : decode cX7_copy 179 = .ok (.getfield 72, 3) := by decide +kernel
theorem dX7_copy_182 : decode cX7_copy 182 = .ok (.iload 6, 2) := by decide +kernel
theorem dX7_copy_184 : decode cX7_copy 184 = .ok (.iaload, 1) := by decide +kernel
theorem dX7_copy_185 : decode cX7_copy 185 = .ok (.iastore, 1) := by decide +kernel
theorem dX7_copy_186 : decode cX7_copy 186 = .ok (.iinc 6 1, 3) := by decide +kernel
theorem dX7_copy_189 : decode cX7_copy 189 = .ok (.goto (-32), 3) := by decide +kernel
theorem dX7_copy_192 : decode cX7_copy 192 = .ok (.iconst 1, 1) := by decide +kernel
theorem dX7_copy_193 : decode cX7_copy 193 = .ok (.ireturn, 1) := by decide +kernel
theorem dX7_write_0 : decode cX7_write 0 = .ok (.iload_n 1, 1) := by decide +kernel
theorem dX7_write_1 : decode cX7_write 1 = .ok (.iconst 0, 1) := by decide +kernel
theorem dX7_write_2 : decode cX7_write 2 = .ok (.bipush 99, 2) := by decide +kernel
theorem dX7_write_4 : decode cX7_write 4 = .ok (.invokestatic 75, 3) := by decide +kernel
theorem dX7_write_7 : decode cX7_write 7 = .ok (.ifCond .eq 10, 3) := by decide +kernel
theorem dX7_write_10 : decode cX7_write 10 = .ok (.iload_n 2, 1) := by decide +kernel
theorem dX7_write_11 : decode cX7_write 11 = .ok (.invokestatic 82, 3) := by decide +kernel
theorem dX7_write_14 : decode cX7_write 14 = .ok (.ifCond .ne 6, 3) := by decide +kernel
theorem dX7_write_17 : decode cX7_write 17 = .ok (.bipush (-2), 2) := by decide +kernel
theorem dX7_write_19 : decode cX7_write 19 = .ok (.ireturn, 1) := by decide +kernel
theorem dX7_write_20 : decode cX7_write 20 = .ok (.aload_n 0, 1) := by decide +kernel
theorem dX7_write_21 : decode cX7_write 21 = .ok (.getfield 59, 3) := by decide +kernel
theorem dX7_write_24 : decode cX7_write 24 = .ok (.iload_n 2, 1) := by decide +kernel
theorem dX7_write_25 : decode cX7_write 25 = .ok (.baload, 1) := by decide +kernel
theorem dX7_write_26 : decode cX7_write 26 = .ok (.ifCond .ne 9, 3) := by decide +kernel
theorem dX7_write_29 : decode cX7_write 29 = .ok (.aload_n 0, 1) := by decide +kernel
theorem dX7_write_30 : decode cX7_write 30 = .ok (.iconst 1, 1) := by decide +kernel
theorem dX7_write_31 : decode cX7_write 31 = .ok (.invokevirtual 86, 3) := by decide +kernel
theorem dX7_write_34 : decode cX7_write 34 = .ok (.ireturn, 1) := by decide +kernel
theorem dX7_write_35 : decode cX7_write 35 = .ok (.aload_n 0, 1) := by decide +kernel
theorem dX7_write_36 : decode cX7_write 36 = .ok (.invokevirtual 228, 3) := by decide +kernel
theorem dX7_write_39 : decode cX7_write 39 = .ok (.aload_n 0, 1) := by decide +kernel
theorem dX7_write_40 : decode cX7_write 40 = .ok (.iload_n 1, 1) := by decide +kernel
theorem dX7_write_41 : decode cX7_write 41 = .ok (.invokevirtual 231, 3) := by decide +kernel
theorem dX7_write_44 : decode cX7_write 44 = .ok (.istore_n 3, 1) := by decide +kernel
theorem dX7_write_45 : decode cX7_write 45 = .ok (.iconst 0, 1) := by decide +kernel
theorem dX7_write_46 : decode cX7_write 46 = .ok (.istore 4, 2) := by decide +kernel
theorem dX7_write_48 : decode cX7_write 48 = .ok (.iload 4, 2) := by decide +kernel
theorem dX7_write_50 : decode cX7_write 50 = .ok (.aload_n 0, 1) := by decide +kernel
theorem dX7_write_51 : decode cX7_write 51 = .ok (.getfield 66, 3) := by decide +kernel
theorem dX7_write_54 : decode cX7_write 54 = .ok (.iload_n 2, 1) := by decide +kernel
theorem dX7_write_55 : decode cX7_write 55 = .ok (.iaload, 1) := by decide +kernel
theorem dX7_write_56 : decode cX7_write 56 = .ok (.if_icmp .ge 29, 3) := by decide +kernel
theorem dX7_write_59 : decode cX7_write 59 = .ok (.iload 4, 2) := by decide +kernel
theorem dX7_write_61 : decode cX7_write 61 = .ok (.iload_n 3, 1) := by decide +kernel
theorem dX7_write_62 : decode cX7_write 62 = .ok (.if_icmp .ge 23, 3) := by decide +kernel
theorem dX7_write_65 : decode cX7_write 65 = .ok (.aload_n 0, 1) := by decide +kernel
theorem dX7_write_66 : decode cX7_write 66 = .ok (.iload_n 2, 1) := by decide +kernel
theorem dX7_write_67 : decode cX7_write 67 = .ok (.iload 4, 2) := by decide +kernel
theorem dX7_write_69 : decode cX7_write 69 = .ok (.aload_n 0, 1) := by decide +kernel
theorem dX7_write_70 : decode cX7_write 70 = .ok (.iload_n 1, 1) := by decide +kernel
theorem dX7_write_71 : decode cX7_write 71 = .ok (.iload 4, 2) := by decide +kernel
theorem dX7_write_73 : decode cX7_write 73 = .ok (.invokevirtual 234, 3) := by decide +kernel
theorem dX7_write_76 : decode cX7_write 76 = .ok (.invokevirtual 282, 3) := by decide +kernel
theorem dX7_write_79 : decode cX7_write 79 = .ok (.iinc 4 1, 3) := by decide +kernel
theorem dX7_write_82 : decode cX7_write 82 = .ok (.goto (-34), 3) := by decide +kernel
theorem dX7_write_85 : decode cX7_write 85 = .ok (.iload 4, 2) := by decide +kernel
theorem dX7_write_87 : decode cX7_write 87 = .ok (.ireturn, 1) := by decide +kernel
theorem dX7_partsOf_0 : decode cX7_partsOf 0 = .ok (.aload_n 0, 1) := by decide +kernel
theorem dX7_partsOf_1 : decode cX7_partsOf 1 = .ok (.invokevirtual 112, 3) := by decide +kernel
theorem dX7_partsOf_4 : decode cX7_partsOf 4 = .ok (.aload_n 0, 1) := by decide +kernel
theorem dX7_partsOf_5 : decode cX7_partsOf 5 = .ok (.getfield 93, 3) := by decide +kernel
theorem dX7_partsOf_8 : decode cX7_partsOf 8 = .ok (.ireturn, 1) := by decide +kernel
theorem dX7_choicesOf_0 : decode cX7_choicesOf 0 = .ok (.aload_n 0, 1) := by decide +kernel
theorem dX7_choicesOf_1 : decode cX7_choicesOf 1 = .ok (.invokevirtual 112, 3) := by decide +kernel
theorem dX7_choicesOf_4 : decode cX7_choicesOf 4 = .ok (.aload_n 0, 1) := by decide +kernel
theorem dX7_choicesOf_5 : decode cX7_choicesOf 5 = .ok (.getfield 96, 3) := by decide +kernel
theorem dX7_choicesOf_8 : decode cX7_choicesOf 8 = .ok (.ireturn, 1) := by decide +kernel
theorem dX7_wholeOf_0 : decode cX7_wholeOf 0 = .ok (.aload_n 0, 1) := by decide +kernel
theorem dX7_wholeOf_1 : decode cX7_wholeOf 1 = .ok (.invokevirtual 172, 3) := by decide +kernel
theorem dX7_wholeOf_4 : decode cX7_wholeOf 4 = .ok (.aload_n 0, 1) := by decide +kernel
theorem dX7_wholeOf_5 : decode cX7_wholeOf 5 = .ok (.getfield 93, 3) := by decide +kernel
theorem dX7_wholeOf_8 : decode cX7_wholeOf 8 = .ok (.ifCond .ne 7, 3) := by decide +kernel
theorem dX7_wholeOf_11 : decode cX7_wholeOf 11 = .ok (.iconst 0, 1) := by decide +kernel
theorem dX7_wholeOf_12 : decode cX7_wholeOf 12 = .ok (.goto 9, 3) := by decide +kernel
theorem dX7_wholeOf_15 : decode cX7_wholeOf 15 = .ok (.aload_n 0, 1) := by decide +kernel
theorem dX7_wholeOf_16 : decode cX7_wholeOf 16 = .ok (.getfield 41, 3) := by decide +kernel
theorem dX7_wholeOf_19 : decode cX7_wholeOf 19 = .ok (.iconst 0, 1) := by decide +kernel
theorem dX7_wholeOf_20 : decode cX7_wholeOf 20 = .ok (.iaload, 1) := by decide +kernel
theorem dX7_wholeOf_21 : decode cX7_wholeOf 21 = .ok (.ireturn, 1) := by decide +kernel
theorem dX7_count_0 : decode cX7_count 0 = .ok (.iload_n 1, 1) := by decide +kernel
theorem dX7_count_1 : decode cX7_count 1 = .ok (.tableswitch 99 0 8 #[51, 56, 61, 66, 71, 76, 82, 88, 94], 51) := by decide +kernel
theorem dX7_count_52 : decode cX7_count 52 = .ok (.aload_n 0, 1) := by decide +kernel
theorem dX7_count_53 : decode cX7_count 53 = .ok (.getfield 79, 3) := by decide +kernel
theorem dX7_count_56 : decode cX7_count 56 = .ok (.ireturn, 1) := by decide +kernel
theorem dX7_count_57 : decode cX7_count 57 = .ok (.aload_n 0, 1) := by decide +kernel
theorem dX7_count_58 : decode cX7_count 58 = .ok (.invokevirtual 286, 3) := by decide +kernel
theorem dX7_count_61 : decode cX7_count 61 = .ok (.ireturn, 1) := by decide +kernel
theorem dX7_count_62 : decode cX7_count 62 = .ok (.aload_n 0, 1) := by decide +kernel
theorem dX7_count_63 : decode cX7_count 63 = .ok (.invokevirtual 289, 3) := by decide +kernel
theorem dX7_count_66 : decode cX7_count 66 = .ok (.ireturn, 1) := by decide +kernel
theorem dX7_count_67 : decode cX7_count 67 = .ok (.aload_n 0, 1) := by decide +kernel
theorem dX7_count_68 : decode cX7_count 68 = .ok (.getfield 13, 3) := by decide +kernel
theorem dX7_count_71 : decode cX7_count 71 = .ok (.ireturn, 1) := by decide +kernel
theorem dX7_count_72 : decode cX7_count 72 = .ok (.aload_n 0, 1) := by decide +kernel
theorem dX7_count_73 : decode cX7_count 73 = .ok (.invokevirtual 292, 3) := by decide +kernel
theorem dX7_count_76 : decode cX7_count 76 = .ok (.ireturn, 1) := by decide +kernel
theorem dX7_count_77 : decode cX7_count 77 = .ok (.aload_n 0, 1) := by decide +kernel
theorem dX7_count_78 : decode cX7_count 78 = .ok (.iconst 0, 1) := by decide +kernel
theorem dX7_count_79 : decode cX7_count 79 = .ok (.invokevirtual 190, 3) := by decide +kernel
theorem dX7_count_82 : decode cX7_count 82 = .ok (.ireturn, 1) := by decide +kernel
theorem dX7_count_83 : decode cX7_count 83 = .ok (.aload_n 0, 1) := by decide +kernel
theorem dX7_count_84 : decode cX7_count 84 = .ok (.iconst 1, 1) := by decide +kernel
theorem dX7_count_85 : decode cX7_count 85 = .ok (.invokevirtual 190, 3) := by decide +kernel
theorem dX7_count_88 : decode cX7_count 88 = .ok (.ireturn, 1) := by decide +kernel
theorem dX7_count_89 : decode cX7_count 89 = .ok (.aload_n 0, 1) := by decide +kernel
theorem dX7_count_90 : decode cX7_count 90 = .ok (.iconst 0, 1) := by decide +kernel
theorem dX7_count_91 : decode cX7_count 91 = .ok (.invokevirtual 206, 3) := by decide +kernel
theorem dX7_count_94 : decode cX7_count 94 = .ok (.ireturn, 1) := by decide +kernel
theorem dX7_count_95 : decode cX7_count 95 = .ok (.aload_n 0, 1) := by decide +kernel
theorem dX7_count_96 : decode cX7_count 96 = .ok (.getfield 276, 3) := by decide +kernel
theorem dX7_count_99 : decode cX7_count 99 = .ok (.ireturn, 1) := by decide +kernel
theorem dX7_count_100 : decode cX7_count 100 = .ok (.bipush (-2), 2) := by decide +kernel
theorem dX7_count_102 : decode cX7_count 102 = .ok (.ireturn, 1) := by decide +kernel
theorem dX7_partDigest_0 : decode cX7_partDigest 0 = .ok (.lload_n 1, 1) := by decide +kernel
theorem dX7_partDigest_1 : decode cX7_partDigest 1 = .ok (.lstore 4, 2) := by decide +kernel
theorem dX7_partDigest_3 : decode cX7_partDigest 3 = .ok (.iconst 0, 1) := by decide +kernel
theorem dX7_partDigest_4 : decode cX7_partDigest 4 = .ok (.istore 6, 2) := by decide +kernel
theorem dX7_partDigest_6 : decode cX7_partDigest 6 = .ok (.iload 6, 2) := by decide +kernel
theorem dX7_partDigest_8 : decode cX7_partDigest 8 = .ok (.iconst 4, 1) := by decide +kernel
theorem dX7_partDigest_9 : decode cX7_partDigest 9 = .ok (.if_icmp .ge 26, 3) := by decide +kernel
theorem dX7_partDigest_12 : decode cX7_partDigest 12 = .ok (.ldc2_w 295, 3) := by decide +kernel
theorem dX7_partDigest_15 : decode cX7_partDigest 15 = .ok (.lload 4, 2) := by decide +kernel
theorem dX7_partDigest_17 : decode cX7_partDigest 17 = .ok (.lmul, 1) := by decide +kernel
theorem dX7_partDigest_18 : decode cX7_partDigest 18 = .ok (.aload_n 0, 1) := by decide +kernel
theorem dX7_partDigest_19 : decode cX7_partDigest 19 = .ok (.iload_n 3, 1) := by decide +kernel
theorem dX7_partDigest_20 : decode cX7_partDigest 20 = .ok (.iload 6, 2) := by decide +kernel
theorem dX7_partDigest_22 : decode cX7_partDigest 22 = .ok (.invokevirtual 297, 3) := by decide +kernel
theorem dX7_partDigest_25 : decode cX7_partDigest 25 = .ok (.i2l, 1) := by decide +kernel
theorem dX7_partDigest_26 : decode cX7_partDigest 26 = .ok (.ladd, 1) := by decide +kernel
theorem dX7_partDigest_27 : decode cX7_partDigest 27 = .ok (.lstore 4, 2) := by decide +kernel
theorem dX7_partDigest_29 : decode cX7_partDigest 29 = .ok (.iinc 6 1, 3) := by decide +kernel
theorem dX7_partDigest_32 : decode cX7_partDigest 32 = .ok (.goto (-26), 3) := by decide +kernel
theorem dX7_partDigest_35 : decode cX7_partDigest 35 = .ok (.iconst 0, 1) := by decide +kernel
theorem dX7_partDigest_36 : decode cX7_partDigest 36 = .ok (.istore 6, 2) := by decide +kernel
theorem dX7_partDigest_38 : decode cX7_partDigest 38 = .ok (.iload 6, 2) := by decide +kernel
theorem dX7_partDigest_40 : decode cX7_partDigest 40 = .ok (.iconst 2, 1) := by decide +kernel
theorem dX7_partDigest_41 : decode cX7_partDigest 41 = .ok (.if_icmp .ge 43, 3) := by decide +kernel
theorem dX7_partDigest_44 : decode cX7_partDigest 44 = .ok (.iconst 0, 1) := by decide +kernel
theorem dX7_partDigest_45 : decode cX7_partDigest 45 = .ok (.istore 7, 2) := by decide +kernel
theorem dX7_partDigest_47 : decode cX7_partDigest 47 = .ok (.iload 7, 2) := by decide +kernel
theorem dX7_partDigest_49 : decode cX7_partDigest 49 = .ok (.iconst 4, 1) := by decide +kernel
theorem dX7_partDigest_50 : decode cX7_partDigest 50 = .ok (.if_icmp .ge 28, 3) := by decide +kernel
theorem dX7_partDigest_53 : decode cX7_partDigest 53 = .ok (.ldc2_w 295, 3) := by decide +kernel
theorem dX7_partDigest_56 : decode cX7_partDigest 56 = .ok (.lload 4, 2) := by decide +kernel
theorem dX7_partDigest_58 : decode cX7_partDigest 58 = .ok (.lmul, 1) := by decide +kernel
theorem dX7_partDigest_59 : decode cX7_partDigest 59 = .ok (.aload_n 0, 1) := by decide +kernel
theorem dX7_partDigest_60 : decode cX7_partDigest 60 = .ok (.iload_n 3, 1) := by decide +kernel
theorem dX7_partDigest_61 : decode cX7_partDigest 61 = .ok (.iload 6, 2) := by decide +kernel
theorem dX7_partDigest_63 : decode cX7_partDigest 63 = .ok (.iload 7, 2) := by decide +kernel
theorem dX7_partDigest_65 : decode cX7_partDigest 65 = .ok (.invokevirtual 300, 3) := by decide +kernel
theorem dX7_partDigest_68 : decode cX7_partDigest 68 = .ok (.i2l, 1) := by decide +kernel
theorem dX7_partDigest_69 : decode cX7_partDigest 69 = .ok (.ladd, 1) := by decide +kernel
theorem dX7_partDigest_70 : decode cX7_partDigest 70 = .ok (.lstore 4, 2) := by decide +kernel
theorem dX7_partDigest_72 : decode cX7_partDigest 72 = .ok (.iinc 7 1, 3) := by decide +kernel
theorem dX7_partDigest_75 : decode cX7_partDigest 75 = .ok (.goto (-28), 3) := by decide +kernel
theorem dX7_partDigest_78 : decode cX7_partDigest 78 = .ok (.iinc 6 1, 3) := by decide +kernel
theorem dX7_partDigest_81 : decode cX7_partDigest 81 = .ok (.goto (-43), 3) := by decide +kernel
theorem dX7_partDigest_84 : decode cX7_partDigest 84 = .ok (.lload 4, 2) := by decide +kernel
theorem dX7_partDigest_86 : decode cX7_partDigest 86 = .ok (.lreturn, 1) := by decide +kernel
theorem dX7_digest_0 : decode cX7_digest 0 = .ok (.ldc2_w 303, 3) := by decide +kernel
theorem dX7_digest_3 : decode cX7_digest 3 = .ok (.lstore_n 1, 1) := by decide +kernel
theorem dX7_digest_4 : decode cX7_digest 4 = .ok (.iconst 0, 1) := by decide +kernel
theorem dX7_digest_5 : decode cX7_digest 5 = .ok (.istore_n 3, 1) := by decide +kernel
theorem dX7_digest_6 : decode cX7_digest 6 = .ok (.iload_n 3, 1) := by decide +kernel
theorem dX7_digest_7 : decode cX7_digest 7 = .ok (.bipush 8, 2) := by decide +kernel
theorem dX7_digest_9 : decode cX7_digest 9 = .ok (.if_icmp .ge 22, 3) := by decide +kernel
theorem dX7_digest_12 : decode cX7_digest 12 = .ok (.ldc2_w 295, 3) := by decide +kernel
theorem dX7_digest_15 : decode cX7_digest 15 = .ok (.lload_n 1, 1) := by decide +kernel
theorem dX7_digest_16 : decode cX7_digest 16 = .ok (.lmul, 1) := by decide +kernel
theorem dX7_digest_17 : decode cX7_digest 17 = .ok (.aload_n 0, 1) := by decide +kernel
theorem dX7_digest_18 : decode cX7_digest 18 = .ok (.iload_n 3, 1) := by decide +kernel
theorem dX7_digest_19 : decode cX7_digest 19 = .ok (.invokevirtual 305, 3) := by decide +kernel
theorem dX7_digest_22 : decode cX7_digest 22 = .ok (.i2l, 1) := by decide +kernel
theorem dX7_digest_23 : decode cX7_digest 23 = .ok (.ladd, 1) := by decide +kernel
theorem dX7_digest_24 : decode cX7_digest 24 = .ok (.lstore_n 1, 1) := by decide +kernel
theorem dX7_digest_25 : decode cX7_digest 25 = .ok (.iinc 3 1, 3) := by decide +kernel
theorem dX7_digest_28 : decode cX7_digest 28 = .ok (.goto (-22), 3) := by decide +kernel
theorem dX7_digest_31 : decode cX7_digest 31 = .ok (.ldc2_w 295, 3) := by decide +kernel
theorem dX7_digest_34 : decode cX7_digest 34 = .ok (.lload_n 1, 1) := by decide +kernel
theorem dX7_digest_35 : decode cX7_digest 35 = .ok (.lmul, 1) := by decide +kernel
theorem dX7_digest_36 : decode cX7_digest 36 = .ok (.aload_n 0, 1) := by decide +kernel
theorem dX7_digest_37 : decode cX7_digest 37 = .ok (.invokevirtual 115, 3) := by decide +kernel
theorem dX7_digest_40 : decode cX7_digest 40 = .ok (.i2l, 1) := by decide +kernel
theorem dX7_digest_41 : decode cX7_digest 41 = .ok (.ladd, 1) := by decide +kernel
theorem dX7_digest_42 : decode cX7_digest 42 = .ok (.lstore_n 1, 1) := by decide +kernel
theorem dX7_digest_43 : decode cX7_digest 43 = .ok (.aload_n 0, 1) := by decide +kernel
theorem dX7_digest_44 : decode cX7_digest 44 = .ok (.invokevirtual 286, 3) := by decide +kernel
theorem dX7_digest_47 : decode cX7_digest 47 = .ok (.istore_n 3, 1) := by decide +kernel
theorem dX7_digest_48 : decode cX7_digest 48 = .ok (.iconst 0, 1) := by decide +kernel
theorem dX7_digest_49 : decode cX7_digest 49 = .ok (.istore 4, 2) := by decide +kernel
theorem dX7_digest_51 : decode cX7_digest 51 = .ok (.iload 4, 2) := by decide +kernel
end
section
theorem dX7_digest_53 : decode cX7_digest 53 = .ok (.iload_n 3, 1) := by decide +kernel
theorem dX7_digest_54 : decode cX7_digest 54 = .ok (.if_icmp .ge 17, 3) := by decide +kernel
theorem dX7_digest_57 : decode cX7_digest 57 = .ok (.aload_n 0, 1) := by decide +kernel
theorem dX7_digest_58 : decode cX7_digest 58 = .ok (.lload_n 1, 1) := by decide +kernel
theorem dX7_digest_59 : decode cX7_digest 59 = .ok (.iload 4, 2) := by decide +kernel
theorem dX7_digest_61 : decode cX7_digest 61 = .ok (.invokevirtual 308, 3) := by decide +kernel
theorem dX7_digest_64 : decode cX7_digest 64 = .ok (.lstore_n 1, 1) := by decide +kernel
theorem dX7_digest_65 : decode cX7_digest 65 = .ok (.iinc 4 1, 3) := by decide +kernel
theorem dX7_digest_68 : decode cX7_digest 68 = .ok (.goto (-17), 3) := by decide +kernel
theorem dX7_digest_71 : decode cX7_digest 71 = .ok (.iconst 0, 1) := by decide +kernel
theorem dX7_digest_72 : decode cX7_digest 72 = .ok (.istore 4, 2) := by decide +kernel
theorem dX7_digest_74 : decode cX7_digest 74 = .ok (.iload 4, 2) := by decide +kernel
theorem dX7_digest_76 : decode cX7_digest 76 = .ok (.bipush 8, 2) := by decide +kernel
theorem dX7_digest_78 : decode cX7_digest 78 = .ok (.if_icmp .ge 41, 3) := by decide +kernel
theorem dX7_digest_81 : decode cX7_digest 81 = .ok (.iconst 0, 1) := by decide +kernel
theorem dX7_digest_82 : decode cX7_digest 82 = .ok (.istore 5, 2) := by decide +kernel
theorem dX7_digest_84 : decode cX7_digest 84 = .ok (.iload 5, 2) := by decide +kernel
theorem dX7_digest_86 : decode cX7_digest 86 = .ok (.iconst 4, 1) := by decide +kernel
theorem dX7_digest_87 : decode cX7_digest 87 = .ok (.if_icmp .ge 26, 3) := by decide +kernel
theorem dX7_digest_90 : decode cX7_digest 90 = .ok (.ldc2_w 295, 3) := by decide +kernel
theorem dX7_digest_93 : decode cX7_digest 93 = .ok (.lload_n 1, 1) := by decide +kernel
theorem dX7_digest_94 : decode cX7_digest 94 = .ok (.lmul, 1) := by decide +kernel
theorem dX7_digest_95 : decode cX7_digest 95 = .ok (.aload_n 0, 1) := by decide +kernel
theorem dX7_digest_96 : decode cX7_digest 96 = .ok (.iconst 0, 1) := by decide +kernel
theorem dX7_digest_97 : decode cX7_digest 97 = .ok (.iload 4, 2) := by decide +kernel
theorem dX7_digest_99 : decode cX7_digest 99 = .ok (.iload 5, 2) := by decide +kernel
theorem dX7_digest_101 : decode cX7_digest 101 = .ok (.invokevirtual 300, 3) := by decide +kernel
theorem dX7_digest_104 : decode cX7_digest 104 = .ok (.i2l, 1) := by decide +kernel
theorem dX7_digest_105 : decode cX7_digest 105 = .ok (.ladd, 1) := by decide +kernel
theorem dX7_digest_106 : decode cX7_digest 106 = .ok (.lstore_n 1, 1) := by decide +kernel
theorem dX7_digest_107 : decode cX7_digest 107 = .ok (.iinc 5 1, 3) := by decide +kernel
theorem dX7_digest_110 : decode cX7_digest 110 = .ok (.goto (-26), 3) := by decide +kernel
theorem dX7_digest_113 : decode cX7_digest 113 = .ok (.iinc 4 1, 3) := by decide +kernel
theorem dX7_digest_116 : decode cX7_digest 116 = .ok (.goto (-42), 3) := by decide +kernel
theorem dX7_digest_119 : decode cX7_digest 119 = .ok (.ldc2_w 295, 3) := by decide +kernel
theorem dX7_digest_122 : decode cX7_digest 122 = .ok (.lload_n 1, 1) := by decide +kernel
theorem dX7_digest_123 : decode cX7_digest 123 = .ok (.lmul, 1) := by decide +kernel
theorem dX7_digest_124 : decode cX7_digest 124 = .ok (.aload_n 0, 1) := by decide +kernel
theorem dX7_digest_125 : decode cX7_digest 125 = .ok (.iconst 0, 1) := by decide +kernel
theorem dX7_digest_126 : decode cX7_digest 126 = .ok (.invokevirtual 190, 3) := by decide +kernel
theorem dX7_digest_129 : decode cX7_digest 129 = .ok (.i2l, 1) := by decide +kernel
theorem dX7_digest_130 : decode cX7_digest 130 = .ok (.ladd, 1) := by decide +kernel
theorem dX7_digest_131 : decode cX7_digest 131 = .ok (.lstore_n 1, 1) := by decide +kernel
theorem dX7_digest_132 : decode cX7_digest 132 = .ok (.ldc2_w 295, 3) := by decide +kernel
theorem dX7_digest_135 : decode cX7_digest 135 = .ok (.lload_n 1, 1) := by decide +kernel
theorem dX7_digest_136 : decode cX7_digest 136 = .ok (.lmul, 1) := by decide +kernel
theorem dX7_digest_137 : decode cX7_digest 137 = .ok (.aload_n 0, 1) := by decide +kernel
theorem dX7_digest_138 : decode cX7_digest 138 = .ok (.iconst 1, 1) := by decide +kernel
theorem dX7_digest_139 : decode cX7_digest 139 = .ok (.invokevirtual 190, 3) := by decide +kernel
theorem dX7_digest_142 : decode cX7_digest 142 = .ok (.i2l, 1) := by decide +kernel
theorem dX7_digest_143 : decode cX7_digest 143 = .ok (.ladd, 1) := by decide +kernel
theorem dX7_digest_144 : decode cX7_digest 144 = .ok (.lstore_n 1, 1) := by decide +kernel
theorem dX7_digest_145 : decode cX7_digest 145 = .ok (.iconst 0, 1) := by decide +kernel
theorem dX7_digest_146 : decode cX7_digest 146 = .ok (.istore 4, 2) := by decide +kernel
theorem dX7_digest_148 : decode cX7_digest 148 = .ok (.iload 4, 2) := by decide +kernel
theorem dX7_digest_150 : decode cX7_digest 150 = .ok (.iconst 5, 1) := by decide +kernel
theorem dX7_digest_151 : decode cX7_digest 151 = .ok (.if_icmp .ge 23, 3) := by decide +kernel
theorem dX7_digest_154 : decode cX7_digest 154 = .ok (.ldc2_w 295, 3) := by decide +kernel
theorem dX7_digest_157 : decode cX7_digest 157 = .ok (.lload_n 1, 1) := by decide +kernel
theorem dX7_digest_158 : decode cX7_digest 158 = .ok (.lmul, 1) := by decide +kernel
theorem dX7_digest_159 : decode cX7_digest 159 = .ok (.aload_n 0, 1) := by decide +kernel
theorem dX7_digest_160 : decode cX7_digest 160 = .ok (.iload 4, 2) := by decide +kernel
theorem dX7_digest_162 : decode cX7_digest 162 = .ok (.invokevirtual 206, 3) := by decide +kernel
theorem dX7_digest_165 : decode cX7_digest 165 = .ok (.i2l, 1) := by decide +kernel
theorem dX7_digest_166 : decode cX7_digest 166 = .ok (.ladd, 1) := by decide +kernel
theorem dX7_digest_167 : decode cX7_digest 167 = .ok (.lstore_n 1, 1) := by decide +kernel
theorem dX7_digest_168 : decode cX7_digest 168 = .ok (.iinc 4 1, 3) := by decide +kernel
theorem dX7_digest_171 : decode cX7_digest 171 = .ok (.goto (-23), 3) := by decide +kernel
theorem dX7_digest_174 : decode cX7_digest 174 = .ok (.iconst 0, 1) := by decide +kernel
theorem dX7_digest_175 : decode cX7_digest 175 = .ok (.istore 4, 2) := by decide +kernel
theorem dX7_digest_177 : decode cX7_digest 177 = .ok (.iload 4, 2) := by decide +kernel
theorem dX7_digest_179 : decode cX7_digest 179 = .ok (.bipush 10, 2) := by decide +kernel
theorem dX7_digest_181 : decode cX7_digest 181 = .ok (.if_icmp .ge 54, 3) := by decide +kernel
theorem dX7_digest_184 : decode cX7_digest 184 = .ok (.ldc2_w 295, 3) := by decide +kernel
theorem dX7_digest_187 : decode cX7_digest 187 = .ok (.lload_n 1, 1) := by decide +kernel
theorem dX7_digest_188 : decode cX7_digest 188 = .ok (.lmul, 1) := by decide +kernel
theorem dX7_digest_189 : decode cX7_digest 189 = .ok (.aload_n 0, 1) := by decide +kernel
theorem dX7_digest_190 : decode cX7_digest 190 = .ok (.iload 4, 2) := by decide +kernel
theorem dX7_digest_192 : decode cX7_digest 192 = .ok (.iconst (-1), 1) := by decide +kernel
theorem dX7_digest_193 : decode cX7_digest 193 = .ok (.invokevirtual 237, 3) := by decide +kernel
theorem dX7_digest_196 : decode cX7_digest 196 = .ok (.i2l, 1) := by decide +kernel
theorem dX7_digest_197 : decode cX7_digest 197 = .ok (.ladd, 1) := by decide +kernel
theorem dX7_digest_198 : decode cX7_digest 198 = .ok (.lstore_n 1, 1) := by decide +kernel
theorem dX7_digest_199 : decode cX7_digest 199 = .ok (.ldc2_w 295, 3) := by decide +kernel
theorem dX7_digest_202 : decode cX7_digest 202 = .ok (.lload_n 1, 1) := by decide +kernel
theorem dX7_digest_203 : decode cX7_digest 203 = .ok (.lmul, 1) := by decide +kernel
theorem dX7_digest_204 : decode cX7_digest 204 = .ok (.aload_n 0, 1) := by decide +kernel
theorem dX7_digest_205 : decode cX7_digest 205 = .ok (.iload 4, 2) := by decide +kernel
theorem dX7_digest_207 : decode cX7_digest 207 = .ok (.iconst 0, 1) := by decide +kernel
theorem dX7_digest_208 : decode cX7_digest 208 = .ok (.invokevirtual 237, 3) := by decide +kernel
theorem dX7_digest_211 : decode cX7_digest 211 = .ok (.i2l, 1) := by decide +kernel
theorem dX7_digest_212 : decode cX7_digest 212 = .ok (.ladd, 1) := by decide +kernel
theorem dX7_digest_213 : decode cX7_digest 213 = .ok (.lstore_n 1, 1) := by decide +kernel
theorem dX7_digest_214 : decode cX7_digest 214 = .ok (.ldc2_w 295, 3) := by decide +kernel
theorem dX7_digest_217 : decode cX7_digest 217 = .ok (.lload_n 1, 1) := by decide +kernel
theorem dX7_digest_218 : decode cX7_digest 218 = .ok (.lmul, 1) := by decide +kernel
theorem dX7_digest_219 : decode cX7_digest 219 = .ok (.aload_n 0, 1) := by decide +kernel
theorem dX7_digest_220 : decode cX7_digest 220 = .ok (.iload 4, 2) := by decide +kernel
theorem dX7_digest_222 : decode cX7_digest 222 = .ok (.iconst 5, 1) := by decide +kernel
theorem dX7_digest_223 : decode cX7_digest 223 = .ok (.invokevirtual 237, 3) := by decide +kernel
theorem dX7_digest_226 : decode cX7_digest 226 = .ok (.i2l, 1) := by decide +kernel
theorem dX7_digest_227 : decode cX7_digest 227 = .ok (.ladd, 1) := by decide +kernel
theorem dX7_digest_228 : decode cX7_digest 228 = .ok (.lstore_n 1, 1) := by decide +kernel
theorem dX7_digest_229 : decode cX7_digest 229 = .ok (.iinc 4 1, 3) := by decide +kernel
theorem dX7_digest_232 : decode cX7_digest 232 = .ok (.goto (-55), 3) := by decide +kernel
theorem dX7_digest_235 : decode cX7_digest 235 = .ok (.iconst 0, 1) := by decide +kernel
theorem dX7_digest_236 : decode cX7_digest 236 = .ok (.istore 4, 2) := by decide +kernel
theorem dX7_digest_238 : decode cX7_digest 238 = .ok (.iload 4, 2) := by decide +kernel
theorem dX7_digest_240 : decode cX7_digest 240 = .ok (.bipush 64, 2) := by decide +kernel
theorem dX7_digest_242 : decode cX7_digest 242 = .ok (.if_icmp .ge 40, 3) := by decide +kernel
theorem dX7_digest_245 : decode cX7_digest 245 = .ok (.iconst 0, 1) := by decide +kernel
theorem dX7_digest_246 : decode cX7_digest 246 = .ok (.istore 5, 2) := by decide +kernel
theorem dX7_digest_248 : decode cX7_digest 248 = .ok (.iload 5, 2) := by decide +kernel
theorem dX7_digest_250 : decode cX7_digest 250 = .ok (.iconst 3, 1) := by decide +kernel
theorem dX7_digest_251 : decode cX7_digest 251 = .ok (.if_icmp .ge 25, 3) := by decide +kernel
theorem dX7_digest_254 : decode cX7_digest 254 = .ok (.ldc2_w 295, 3) := by decide +kernel
theorem dX7_digest_257 : decode cX7_digest 257 = .ok (.lload_n 1, 1) := by decide +kernel
theorem dX7_digest_258 : decode cX7_digest 258 = .ok (.lmul, 1) := by decide +kernel
theorem dX7_digest_259 : decode cX7_digest 259 = .ok (.aload_n 0, 1) := by decide +kernel
theorem dX7_digest_260 : decode cX7_digest 260 = .ok (.iload 4, 2) := by decide +kernel
theorem dX7_digest_262 : decode cX7_digest 262 = .ok (.iload 5, 2) := by decide +kernel
theorem dX7_digest_264 : decode cX7_digest 264 = .ok (.invokevirtual 218, 3) := by decide +kernel
theorem dX7_digest_267 : decode cX7_digest 267 = .ok (.i2l, 1) := by decide +kernel
theorem dX7_digest_268 : decode cX7_digest 268 = .ok (.ladd, 1) := by decide +kernel
theorem dX7_digest_269 : decode cX7_digest 269 = .ok (.lstore_n 1, 1) := by decide +kernel
theorem dX7_digest_270 : decode cX7_digest 270 = .ok (.iinc 5 1, 3) := by decide +kernel
theorem dX7_digest_273 : decode cX7_digest 273 = .ok (.goto (-25), 3) := by decide +kernel
theorem dX7_digest_276 : decode cX7_digest 276 = .ok (.iinc 4 1, 3) := by decide +kernel
theorem dX7_digest_279 : decode cX7_digest 279 = .ok (.goto (-41), 3) := by decide +kernel
theorem dX7_digest_282 : decode cX7_digest 282 = .ok (.iconst 0, 1) := by decide +kernel
theorem dX7_digest_283 : decode cX7_digest 283 = .ok (.istore 4, 2) := by decide +kernel
theorem dX7_digest_285 : decode cX7_digest 285 = .ok (.iload 4, 2) := by decide +kernel
theorem dX7_digest_287 : decode cX7_digest 287 = .ok (.iconst 3, 1) := by decide +kernel
theorem dX7_digest_288 : decode cX7_digest 288 = .ok (.if_icmp .ge 23, 3) := by decide +kernel
theorem dX7_digest_291 : decode cX7_digest 291 = .ok (.ldc2_w 295, 3) := by decide +kernel
theorem dX7_digest_294 : decode cX7_digest 294 = .ok (.lload_n 1, 1) := by decide +kernel
theorem dX7_digest_295 : decode cX7_digest 295 = .ok (.lmul, 1) := by decide +kernel
theorem dX7_digest_296 : decode cX7_digest 296 = .ok (.aload_n 0, 1) := by decide +kernel
theorem dX7_digest_297 : decode cX7_digest 297 = .ok (.iload 4, 2) := by decide +kernel
theorem dX7_digest_299 : decode cX7_digest 299 = .ok (.invokevirtual 249, 3) := by decide +kernel
theorem dX7_digest_302 : decode cX7_digest 302 = .ok (.i2l, 1) := by decide +kernel
theorem dX7_digest_303 : decode cX7_digest 303 = .ok (.ladd, 1) := by decide +kernel
theorem dX7_digest_304 : decode cX7_digest 304 = .ok (.lstore_n 1, 1) := by decide +kernel
theorem dX7_digest_305 : decode cX7_digest 305 = .ok (.iinc 4 1, 3) := by decide +kernel
theorem dX7_digest_308 : decode cX7_digest 308 = .ok (.goto (-23), 3) := by decide +kernel
theorem dX7_digest_311 : decode cX7_digest 311 = .ok (.ldc2_w 295, 3) := by decide +kernel
theorem dX7_digest_314 : decode cX7_digest 314 = .ok (.lload_n 1, 1) := by decide +kernel
theorem dX7_digest_315 : decode cX7_digest 315 = .ok (.lmul, 1) := by decide +kernel
theorem dX7_digest_316 : decode cX7_digest 316 = .ok (.aload_n 0, 1) := by decide +kernel
theorem dX7_digest_317 : decode cX7_digest 317 = .ok (.invokevirtual 255, 3) := by decide +kernel
theorem dX7_digest_320 : decode cX7_digest 320 = .ok (.i2l, 1) := by decide +kernel
theorem dX7_digest_321 : decode cX7_digest 321 = .ok (.ladd, 1) := by decide +kernel
theorem dX7_digest_322 : decode cX7_digest 322 = .ok (.lstore_n 1, 1) := by decide +kernel
theorem dX7_digest_323 : decode cX7_digest 323 = .ok (.ldc2_w 295, 3) := by decide +kernel
theorem dX7_digest_326 : decode cX7_digest 326 = .ok (.lload_n 1, 1) := by decide +kernel
theorem dX7_digest_327 : decode cX7_digest 327 = .ok (.lmul, 1) := by decide +kernel
theorem dX7_digest_328 : decode cX7_digest 328 = .ok (.aload_n 0, 1) := by decide +kernel
theorem dX7_digest_329 : decode cX7_digest 329 = .ok (.iconst (-1), 1) := by decide +kernel
theorem dX7_digest_330 : decode cX7_digest 330 = .ok (.invokevirtual 261, 3) := by decide +kernel
theorem dX7_digest_333 : decode cX7_digest 333 = .ok (.i2l, 1) := by decide +kernel
theorem dX7_digest_334 : decode cX7_digest 334 = .ok (.ladd, 1) := by decide +kernel
theorem dX7_digest_335 : decode cX7_digest 335 = .ok (.lstore_n 1, 1) := by decide +kernel
theorem dX7_digest_336 : decode cX7_digest 336 = .ok (.ldc2_w 295, 3) := by decide +kernel
theorem dX7_digest_339 : decode cX7_digest 339 = .ok (.lload_n 1, 1) := by decide +kernel
theorem dX7_digest_340 : decode cX7_digest 340 = .ok (.lmul, 1) := by decide +kernel
theorem dX7_digest_341 : decode cX7_digest 341 = .ok (.aload_n 0, 1) := by decide +kernel
theorem dX7_digest_342 : decode cX7_digest 342 = .ok (.iconst 0, 1) := by decide +kernel
theorem dX7_digest_343 : decode cX7_digest 343 = .ok (.invokevirtual 261, 3) := by decide +kernel
theorem dX7_digest_346 : decode cX7_digest 346 = .ok (.i2l, 1) := by decide +kernel
theorem dX7_digest_347 : decode cX7_digest 347 = .ok (.ladd, 1) := by decide +kernel
theorem dX7_digest_348 : decode cX7_digest 348 = .ok (.lstore_n 1, 1) := by decide +kernel
theorem dX7_digest_349 : decode cX7_digest 349 = .ok (.ldc2_w 295, 3) := by decide +kernel
theorem dX7_digest_352 : decode cX7_digest 352 = .ok (.lload_n 1, 1) := by decide +kernel
theorem dX7_digest_353 : decode cX7_digest 353 = .ok (.lmul, 1) := by decide +kernel
theorem dX7_digest_354 : decode cX7_digest 354 = .ok (.aload_n 0, 1) := by decide +kernel
theorem dX7_digest_355 : decode cX7_digest 355 = .ok (.iconst 1, 1) := by decide +kernel
theorem dX7_digest_356 : decode cX7_digest 356 = .ok (.invokevirtual 261, 3) := by decide +kernel
theorem dX7_digest_359 : decode cX7_digest 359 = .ok (.i2l, 1) := by decide +kernel
theorem dX7_digest_360 : decode cX7_digest 360 = .ok (.ladd, 1) := by decide +kernel
theorem dX7_digest_361 : decode cX7_digest 361 = .ok (.lstore_n 1, 1) := by decide +kernel
theorem dX7_digest_362 : decode cX7_digest 362 = .ok (.ldc2_w 295, 3) := by decide +kernel
theorem dX7_digest_365 : decode cX7_digest 365 = .ok (.lload_n 1, 1) := by decide +kernel
theorem dX7_digest_366 : decode cX7_digest 366 = .ok (.lmul, 1) := by decide +kernel
theorem dX7_digest_367 : decode cX7_digest 367 = .ok (.aload_n 0, 1) := by decide +kernel
theorem dX7_digest_368 : decode cX7_digest 368 = .ok (.invokevirtual 273, 3) := by decide +kernel
theorem dX7_digest_371 : decode cX7_digest 371 = .ok (.i2l, 1) := by decide +kernel
theorem dX7_digest_372 : decode cX7_digest 372 = .ok (.ladd, 1) := by decide +kernel
theorem dX7_digest_373 : decode cX7_digest 373 = .ok (.lreturn, 1) := by decide +kernel
end
section
theorem dL_law_0 : decode cL_law 0 = .ok (.new 7, 3) := by decide +kernel
theorem dL_law_3 : decode cL_law 3 = .ok (.dup, 1) := by decide +kernel
theorem dL_law_4 : decode cL_law 4 = .ok (.invokespecial 9, 3) := by decide +kernel
theorem dL_law_7 : decode cL_law 7 = .ok (.astore_n 1, 1) := by decide +kernel
theorem dL_law_8 : decode cL_law 8 = .ok (.new 10, 3) := by decide +kernel
theorem dL_law_11 : decode cL_law 11 = .ok (.dup, 1) := by decide +kernel
theorem dL_law_12 : decode cL_law 12 = .ok (.invokespecial 12, 3) := by decide +kernel
theorem dL_law_15 : decode cL_law 15 = .ok (.astore_n 2, 1) := by decide +kernel
theorem dL_law_16 : decode cL_law 16 = .ok (.iconst 0, 1) := by decide +kernel
theorem dL_law_17 : decode cL_law 17 = .ok (.istore_n 3, 1) := by decide +kernel
theorem dL_law_18 : decode cL_law 18 = .ok (.iload_n 3, 1) := by decide +kernel
theorem dL_law_19 : decode cL_law 19 = .ok (.aload_n 0, 1) := by decide +kernel
theorem dL_law_20 : decode cL_law 20 = .ok (.arraylength, 1) := by decide +kernel
theorem dL_law_21 : decode cL_law 21 = .ok (.bipush 6, 2) := by decide +kernel
theorem dL_law_23 : decode cL_law 23 = .ok (.isub, 1) := by decide +kernel
theorem dL_law_24 : decode cL_law 24 = .ok (.if_icmp .gt 789, 3) := by decide +kernel
theorem dL_law_27 : decode cL_law 27 = .ok (.aload_n 0, 1) := by decide +kernel
theorem dL_law_28 : decode cL_law 28 = .ok (.iload_n 3, 1) := by decide +kernel
theorem dL_law_29 : decode cL_law 29 = .ok (.iaload, 1) := by decide +kernel
theorem dL_law_30 : decode cL_law 30 = .ok (.bipush 31, 2) := by decide +kernel
theorem dL_law_32 : decode cL_law 32 = .ok (.iand, 1) := by decide +kernel
theorem dL_law_33 : decode cL_law 33 = .ok (.tableswitch 774 0 23 #[111, 134, 147, 160, 173, 196, 219, 252, 295, 318, 341, 374, 407, 430, 443, 466, 479, 522, 545, 598, 641, 704, 737, 760], 111) := by decide +kernel
theorem dL_law_144 : decode cL_law 144 = .ok (.aload_n 1, 1) := by decide +kernel
theorem dL_law_145 : decode cL_law 145 = .ok (.aload_n 0, 1) := by decide +kernel
theorem dL_law_146 : decode cL_law 146 = .ok (.iload_n 3, 1) := by decide +kernel
theorem dL_law_147 : decode cL_law 147 = .ok (.iconst 1, 1) := by decide +kernel
theorem dL_law_148 : decode cL_law 148 = .ok (.iadd, 1) := by decide +kernel
theorem dL_law_149 : decode cL_law 149 = .ok (.iaload, 1) := by decide +kernel
theorem dL_law_150 : decode cL_law 150 = .ok (.invokevirtual 13, 3) := by decide +kernel
theorem dL_law_153 : decode cL_law 153 = .ok (.aload_n 2, 1) := by decide +kernel
theorem dL_law_154 : decode cL_law 154 = .ok (.aload_n 0, 1) := by decide +kernel
theorem dL_law_155 : decode cL_law 155 = .ok (.iload_n 3, 1) := by decide +kernel
theorem dL_law_156 : decode cL_law 156 = .ok (.iconst 1, 1) := by decide +kernel
theorem dL_law_157 : decode cL_law 157 = .ok (.iadd, 1) := by decide +kernel
theorem dL_law_158 : decode cL_law 158 = .ok (.iaload, 1) := by decide +kernel
theorem dL_law_159 : decode cL_law 159 = .ok (.invokevirtual 17, 3) := by decide +kernel
theorem dL_law_162 : decode cL_law 162 = .ok (.if_icmp .eq 645, 3) := by decide +kernel
theorem dL_law_165 : decode cL_law 165 = .ok (.iconst 0, 1) := by decide +kernel
theorem dL_law_166 : decode cL_law 166 = .ok (.ireturn, 1) := by decide +kernel
theorem dL_law_167 : decode cL_law 167 = .ok (.aload_n 1, 1) := by decide +kernel
theorem dL_law_168 : decode cL_law 168 = .ok (.invokevirtual 18, 3) := by decide +kernel
theorem dL_law_171 : decode cL_law 171 = .ok (.aload_n 2, 1) := by decide +kernel
theorem dL_law_172 : decode cL_law 172 = .ok (.invokevirtual 22, 3) := by decide +kernel
theorem dL_law_175 : decode cL_law 175 = .ok (.if_icmp .eq 632, 3) := by decide +kernel
theorem dL_law_178 : decode cL_law 178 = .ok (.iconst 0, 1) := by decide +kernel
theorem dL_law_179 : decode cL_law 179 = .ok (.ireturn, 1) := by decide +kernel
theorem dL_law_180 : decode cL_law 180 = .ok (.aload_n 1, 1) := by decide +kernel
theorem dL_law_181 : decode cL_law 181 = .ok (.invokevirtual 23, 3) := by decide +kernel
theorem dL_law_184 : decode cL_law 184 = .ok (.aload_n 2, 1) := by decide +kernel
theorem dL_law_185 : decode cL_law 185 = .ok (.invokevirtual 26, 3) := by decide +kernel
theorem dL_law_188 : decode cL_law 188 = .ok (.if_icmp .eq 619, 3) := by decide +kernel
theorem dL_law_191 : decode cL_law 191 = .ok (.iconst 0, 1) := by decide +kernel
theorem dL_law_192 : decode cL_law 192 = .ok (.ireturn, 1) := by decide +kernel
theorem dL_law_193 : decode cL_law 193 = .ok (.aload_n 1, 1) := by decide +kernel
theorem dL_law_194 : decode cL_law 194 = .ok (.invokevirtual 27, 3) := by decide +kernel
theorem dL_law_197 : decode cL_law 197 = .ok (.aload_n 2, 1) := by decide +kernel
theorem dL_law_198 : decode cL_law 198 = .ok (.invokevirtual 30, 3) := by decide +kernel
theorem dL_law_201 : decode cL_law 201 = .ok (.if_icmp .eq 606, 3) := by decide +kernel
theorem dL_law_204 : decode cL_law 204 = .ok (.iconst 0, 1) := by decide +kernel
theorem dL_law_205 : decode cL_law 205 = .ok (.ireturn, 1) := by decide +kernel
theorem dL_law_206 : decode cL_law 206 = .ok (.aload_n 1, 1) := by decide +kernel
theorem dL_law_207 : decode cL_law 207 = .ok (.aload_n 0, 1) := by decide +kernel
theorem dL_law_208 : decode cL_law 208 = .ok (.iload_n 3, 1) := by decide +kernel
theorem dL_law_209 : decode cL_law 209 = .ok (.iconst 1, 1) := by decide +kernel
theorem dL_law_210 : decode cL_law 210 = .ok (.iadd, 1) := by decide +kernel
theorem dL_law_211 : decode cL_law 211 = .ok (.iaload, 1) := by decide +kernel
theorem dL_law_212 : decode cL_law 212 = .ok (.invokevirtual 31, 3) := by decide +kernel
theorem dL_law_215 : decode cL_law 215 = .ok (.aload_n 2, 1) := by decide +kernel
theorem dL_law_216 : decode cL_law 216 = .ok (.aload_n 0, 1) := by decide +kernel
theorem dL_law_217 : decode cL_law 217 = .ok (.iload_n 3, 1) := by decide +kernel
theorem dL_law_218 : decode cL_law 218 = .ok (.iconst 1, 1) := by decide +kernel
theorem dL_law_219 : decode cL_law 219 = .ok (.iadd, 1) := by decide +kernel
theorem dL_law_220 : decode cL_law 220 = .ok (.iaload, 1) := by decide +kernel
theorem dL_law_221 : decode cL_law 221 = .ok (.invokevirtual 34, 3) := by decide +kernel
theorem dL_law_224 : decode cL_law 224 = .ok (.if_icmp .eq 583, 3) := by decide +kernel
theorem dL_law_227 : decode cL_law 227 = .ok (.iconst 0, 1) := by decide +kernel
theorem dL_law_228 : decode cL_law 228 = .ok (.ireturn, 1) := by decide +kernel
theorem dL_law_229 : decode cL_law 229 = .ok (.aload_n 1, 1) := by decide +kernel
theorem dL_law_230 : decode cL_law 230 = .ok (.aload_n 0, 1) := by decide +kernel
theorem dL_law_231 : decode cL_law 231 = .ok (.iload_n 3, 1) := by decide +kernel
theorem dL_law_232 : decode cL_law 232 = .ok (.iconst 1, 1) := by decide +kernel
theorem dL_law_233 : decode cL_law 233 = .ok (.iadd, 1) := by decide +kernel
theorem dL_law_234 : decode cL_law 234 = .ok (.iaload, 1) := by decide +kernel
theorem dL_law_235 : decode cL_law 235 = .ok (.invokevirtual 35, 3) := by decide +kernel
theorem dL_law_238 : decode cL_law 238 = .ok (.aload_n 2, 1) := by decide +kernel
theorem dL_law_239 : decode cL_law 239 = .ok (.aload_n 0, 1) := by decide +kernel
theorem dL_law_240 : decode cL_law 240 = .ok (.iload_n 3, 1) := by decide +kernel
theorem dL_law_241 : decode cL_law 241 = .ok (.iconst 1, 1) := by decide +kernel
theorem dL_law_242 : decode cL_law 242 = .ok (.iadd, 1) := by decide +kernel
theorem dL_law_243 : decode cL_law 243 = .ok (.iaload, 1) := by decide +kernel
theorem dL_law_244 : decode cL_law 244 = .ok (.invokevirtual 38, 3) := by decide +kernel
theorem dL_law_247 : decode cL_law 247 = .ok (.if_icmp .eq 560, 3) := by decide +kernel
theorem dL_law_250 : decode cL_law 250 = .ok (.iconst 0, 1) := by decide +kernel
theorem dL_law_251 : decode cL_law 251 = .ok (.ireturn, 1) := by decide +kernel
theorem dL_law_252 : decode cL_law 252 = .ok (.aload_n 1, 1) := by decide +kernel
theorem dL_law_253 : decode cL_law 253 = .ok (.aload_n 0, 1) := by decide +kernel
theorem dL_law_254 : decode cL_law 254 = .ok (.iload_n 3, 1) := by decide +kernel
theorem dL_law_255 : decode cL_law 255 = .ok (.iconst 1, 1) := by decide +kernel
theorem dL_law_256 : decode cL_law 256 = .ok (.iadd, 1) := by decide +kernel
theorem dL_law_257 : decode cL_law 257 = .ok (.iaload, 1) := by decide +kernel
theorem dL_law_258 : decode cL_law 258 = .ok (.aload_n 0, 1) := by decide +kernel
theorem dL_law_259 : decode cL_law 259 = .ok (.iload_n 3, 1) := by decide +kernel
theorem dL_law_260 : decode cL_law 260 = .ok (.iconst 2, 1) := by decide +kernel
theorem dL_law_261 : decode cL_law 261 = .ok (.iadd, 1) := by decide +kernel
theorem dL_law_262 : decode cL_law 262 = .ok (.iaload, 1) := by decide +kernel
theorem dL_law_263 : decode cL_law 263 = .ok (.invokevirtual 39, 3) := by decide +kernel
theorem dL_law_266 : decode cL_law 266 = .ok (.aload_n 2, 1) := by decide +kernel
theorem dL_law_267 : decode cL_law 267 = .ok (.aload_n 0, 1) := by decide +kernel
theorem dL_law_268 : decode cL_law 268 = .ok (.iload_n 3, 1) := by decide +kernel
theorem dL_law_269 : decode cL_law 269 = .ok (.iconst 1, 1) := by decide +kernel
theorem dL_law_270 : decode cL_law 270 = .ok (.iadd, 1) := by decide +kernel
theorem dL_law_271 : decode cL_law 271 = .ok (.iaload, 1) := by decide +kernel
theorem dL_law_272 : decode cL_law 272 = .ok (.aload_n 0, 1) := by decide +kernel
theorem dL_law_273 : decode cL_law 273 = .ok (.iload_n 3, 1) := by decide +kernel
theorem dL_law_274 : decode cL_law 274 = .ok (.iconst 2, 1) := by decide +kernel
theorem dL_law_275 : decode cL_law 275 = .ok (.iadd, 1) := by decide +kernel
theorem dL_law_276 : decode cL_law 276 = .ok (.iaload, 1) := by decide +kernel
theorem dL_law_277 : decode cL_law 277 = .ok (.invokevirtual 43, 3) := by decide +kernel
theorem dL_law_280 : decode cL_law 280 = .ok (.if_icmp .eq 527, 3) := by decide +kernel
theorem dL_law_283 : decode cL_law 283 = .ok (.iconst 0, 1) := by decide +kernel
theorem dL_law_284 : decode cL_law 284 = .ok (.ireturn, 1) := by decide +kernel
theorem dL_law_285 : decode cL_law 285 = .ok (.aload_n 1, 1) := by decide +kernel
theorem dL_law_286 : decode cL_law 286 = .ok (.aload_n 0, 1) := by decide +kernel
theorem dL_law_287 : decode cL_law 287 = .ok (.iload_n 3, 1) := by decide +kernel
theorem dL_law_288 : decode cL_law 288 = .ok (.iconst 1, 1) := by decide +kernel
theorem dL_law_289 : decode cL_law 289 = .ok (.iadd, 1) := by decide +kernel
theorem dL_law_290 : decode cL_law 290 = .ok (.iaload, 1) := by decide +kernel
theorem dL_law_291 : decode cL_law 291 = .ok (.aload_n 0, 1) := by decide +kernel
theorem dL_law_292 : decode cL_law 292 = .ok (.iload_n 3, 1) := by decide +kernel
theorem dL_law_293 : decode cL_law 293 = .ok (.iconst 2, 1) := by decide +kernel
theorem dL_law_294 : decode cL_law 294 = .ok (.iadd, 1) := by decide +kernel
theorem dL_law_295 : decode cL_law 295 = .ok (.iaload, 1) := by decide +kernel
theorem dL_law_296 : decode cL_law 296 = .ok (.aload_n 0, 1) := by decide +kernel
theorem dL_law_297 : decode cL_law 297 = .ok (.iload_n 3, 1) := by decide +kernel
theorem dL_law_298 : decode cL_law 298 = .ok (.iconst 3, 1) := by decide +kernel
theorem dL_law_299 : decode cL_law 299 = .ok (.iadd, 1) := by decide +kernel
theorem dL_law_300 : decode cL_law 300 = .ok (.iaload, 1) := by decide +kernel
theorem dL_law_301 : decode cL_law 301 = .ok (.invokevirtual 44, 3) := by decide +kernel
theorem dL_law_304 : decode cL_law 304 = .ok (.aload_n 2, 1) := by decide +kernel
theorem dL_law_305 : decode cL_law 305 = .ok (.aload_n 0, 1) := by decide +kernel
theorem dL_law_306 : decode cL_law 306 = .ok (.iload_n 3, 1) := by decide +kernel
theorem dL_law_307 : decode cL_law 307 = .ok (.iconst 1, 1) := by decide +kernel
theorem dL_law_308 : decode cL_law 308 = .ok (.iadd, 1) := by decide +kernel
theorem dL_law_309 : decode cL_law 309 = .ok (.iaload, 1) := by decide +kernel
theorem dL_law_310 : decode cL_law 310 = .ok (.aload_n 0, 1) := by decide +kernel
theorem dL_law_311 : decode cL_law 311 = .ok (.iload_n 3, 1) := by decide +kernel
theorem dL_law_312 : decode cL_law 312 = .ok (.iconst 2, 1) := by decide +kernel
theorem dL_law_313 : decode cL_law 313 = .ok (.iadd, 1) := by decide +kernel
theorem dL_law_314 : decode cL_law 314 = .ok (.iaload, 1) := by decide +kernel
theorem dL_law_315 : decode cL_law 315 = .ok (.aload_n 0, 1) := by decide +kernel
theorem dL_law_316 : decode cL_law 316 = .ok (.iload_n 3, 1) := by decide +kernel
theorem dL_law_317 : decode cL_law 317 = .ok (.iconst 3, 1) := by decide +kernel
theorem dL_law_318 : decode cL_law 318 = .ok (.iadd, 1) := by decide +kernel
theorem dL_law_319 : decode cL_law 319 = .ok (.iaload, 1) := by decide +kernel
theorem dL_law_320 : decode cL_law 320 = .ok (.invokevirtual 48, 3) := by decide +kernel
theorem dL_law_323 : decode cL_law 323 = .ok (.if_icmp .eq 484, 3) := by decide +kernel
theorem dL_law_326 : decode cL_law 326 = .ok (.iconst 0, 1) := by decide +kernel
theorem dL_law_327 : decode cL_law 327 = .ok (.ireturn, 1) := by decide +kernel
theorem dL_law_328 : decode cL_law 328 = .ok (.aload_n 1, 1) := by decide +kernel
theorem dL_law_329 : decode cL_law 329 = .ok (.aload_n 0, 1) := by decide +kernel
theorem dL_law_330 : decode cL_law 330 = .ok (.iload_n 3, 1) := by decide +kernel
theorem dL_law_331 : decode cL_law 331 = .ok (.iconst 1, 1) := by decide +kernel
theorem dL_law_332 : decode cL_law 332 = .ok (.iadd, 1) := by decide +kernel
theorem dL_law_333 : decode cL_law 333 = .ok (.iaload, 1) := by decide +kernel
theorem dL_law_334 : decode cL_law 334 = .ok (.invokevirtual 49, 3) := by decide +kernel
theorem dL_law_337 : decode cL_law 337 = .ok (.aload_n 2, 1) := by decide +kernel
theorem dL_law_338 : decode cL_law 338 = .ok (.aload_n 0, 1) := by decide +kernel
theorem dL_law_339 : decode cL_law 339 = .ok (.iload_n 3, 1) := by decide +kernel
theorem dL_law_340 : decode cL_law 340 = .ok (.iconst 1, 1) := by decide +kernel
theorem dL_law_341 : decode cL_law 341 = .ok (.iadd, 1) := by decide +kernel
theorem dL_law_342 : decode cL_law 342 = .ok (.iaload, 1) := by decide +kernel
theorem dL_law_343 : decode cL_law 343 = .ok (.invokevirtual 52, 3) := by decide +kernel
theorem dL_law_346 : decode cL_law 346 = .ok (.if_icmp .eq 461, 3) := by decide +kernel
theorem dL_law_349 : decode cL_law 349 = .ok (.iconst 0, 1) := by decide +kernel
theorem dL_law_350 : decode cL_law 350 = .ok (.ireturn, 1) := by decide +kernel
theorem dL_law_351 : decode cL_law 351 = .ok (.aload_n 1, 1) := by decide +kernel
theorem dL_law_352 : decode cL_law 352 = .ok (.aload_n 0, 1) := by decide +kernel
theorem dL_law_353 : decode cL_law 353 = .ok (.iload_n 3, 1) := by decide +kernel
theorem dL_law_354 : decode cL_law 354 = .ok (.iconst 1, 1) := by decide +kernel
theorem dL_law_355 : decode cL_law 355 = .ok (.iadd, 1) := by decide +kernel
theorem dL_law_356 : decode cL_law 356 = .ok (.iaload, 1) := by decide +kernel
theorem dL_law_357 : decode cL_law 357 = .ok (.invokevirtual 53, 3) := by decide +kernel
theorem dL_law_360 : decode cL_law 360 = .ok (.aload_n 2, 1) := by decide +kernel
theorem dL_law_361 : decode cL_law 361 = .ok (.aload_n 0, 1) := by decide +kernel
theorem dL_law_362 : decode cL_law 362 = .ok (.iload_n 3, 1) := by decide +kernel
theorem dL_law_363 : decode cL_law 363 = .ok (.iconst 1, 1) := by decide +kernel
theorem dL_law_364 : decode cL_law 364 = .ok (.iadd, 1) := by decide +kernel
theorem dL_law_365 : decode cL_law 365 = .ok (.iaload, 1) := by decide +kernel
theorem dL_law_366 : decode cL_law 366 = .ok (.invokevirtual 56, 3) := by decide +kernel
theorem dL_law_369 : decode cL_law 369 = .ok (.if_icmp .eq 438, 3) := by decide +kernel
theorem dL_law_372 : decode cL_law 372 = .ok (.iconst 0, 1) := by decide +kernel
theorem dL_law_373 : decode cL_law 373 = .ok (.ireturn, 1) := by decide +kernel
theorem dL_law_374 : decode cL_law 374 = .ok (.aload_n 1, 1) := by decide +kernel
theorem dL_law_375 : decode cL_law 375 = .ok (.aload_n 0, 1) := by decide +kernel
theorem dL_law_376 : decode cL_law 376 = .ok (.iload_n 3, 1) := by decide +kernel
theorem dL_law_377 : decode cL_law 377 = .ok (.iconst 1, 1) := by decide +kernel
theorem dL_law_378 : decode cL_law 378 = .ok (.iadd, 1) := by decide +kernel
theorem dL_law_379 : decode cL_law 379 = .ok (.iaload, 1) := by decide +kernel
theorem dL_law_380 : decode cL_law 380 = .ok (.aload_n 0, 1) := by decide +kernel
theorem dL_law_381 : decode cL_law 381 = .ok (.iload_n 3, 1) := by decide +kernel
theorem dL_law_382 : decode cL_law 382 = .ok (.iconst 2, 1) := by decide +kernel
theorem dL_law_383 : decode cL_law 383 = .ok (.iadd, 1) := by decide +kernel
theorem dL_law_384 : decode cL_law 384 = .ok (.iaload, 1) := by decide +kernel
theorem dL_law_385 : decode cL_law 385 = .ok (.invokevirtual 57, 3) := by decide +kernel
theorem dL_law_388 : decode cL_law 388 = .ok (.aload_n 2, 1) := by decide +kernel
theorem dL_law_389 : decode cL_law 389 = .ok (.aload_n 0, 1) := by decide +kernel
theorem dL_law_390 : decode cL_law 390 = .ok (.iload_n 3, 1) := by decide +kernel
theorem dL_law_391 : decode cL_law 391 = .ok (.iconst 1, 1) := by decide +kernel
theorem dL_law_392 : decode cL_law 392 = .ok (.iadd, 1) := by decide +kernel
theorem dL_law_393 : decode cL_law 393 = .ok (.iaload, 1) := by decide +kernel
theorem dL_law_394 : decode cL_law 394 = .ok (.aload_n 0, 1) := by decide +kernel
theorem dL_law_395 : decode cL_law 395 = .ok (.iload_n 3, 1) := by decide +kernel
theorem dL_law_396 : decode cL_law 396 = .ok (.iconst 2, 1) := by decide +kernel
theorem dL_law_397 : decode cL_law 397 = .ok (.iadd, 1) := by decide +kernel
theorem dL_law_398 : decode cL_law 398 = .ok (.iaload, 1) := by decide +kernel
theorem dL_law_399 : decode cL_law 399 = .ok (.invokevirtual 60, 3) := by decide +kernel
theorem dL_law_402 : decode cL_law 402 = .ok (.if_icmp .eq 405, 3) := by decide +kernel
theorem dL_law_405 : decode cL_law 405 = .ok (.iconst 0, 1) := by decide +kernel
theorem dL_law_406 : decode cL_law 406 = .ok (.ireturn, 1) := by decide +kernel
theorem dL_law_407 : decode cL_law 407 = .ok (.aload_n 1, 1) := by decide +kernel
theorem dL_law_408 : decode cL_law 408 = .ok (.aload_n 0, 1) := by decide +kernel
theorem dL_law_409 : decode cL_law 409 = .ok (.iload_n 3, 1) := by decide +kernel
theorem dL_law_410 : decode cL_law 410 = .ok (.iconst 1, 1) := by decide +kernel
theorem dL_law_411 : decode cL_law 411 = .ok (.iadd, 1) := by decide +kernel
theorem dL_law_412 : decode cL_law 412 = .ok (.iaload, 1) := by decide +kernel
theorem dL_law_413 : decode cL_law 413 = .ok (.aload_n 0, 1) := by decide +kernel
theorem dL_law_414 : decode cL_law 414 = .ok (.iload_n 3, 1) := by decide +kernel
theorem dL_law_415 : decode cL_law 415 = .ok (.iconst 2, 1) := by decide +kernel
theorem dL_law_416 : decode cL_law 416 = .ok (.iadd, 1) := by decide +kernel
theorem dL_law_417 : decode cL_law 417 = .ok (.iaload, 1) := by decide +kernel
theorem dL_law_418 : decode cL_law 418 = .ok (.invokevirtual 61, 3) := by decide +kernel
theorem dL_law_421 : decode cL_law 421 = .ok (.aload_n 2, 1) := by decide +kernel
theorem dL_law_422 : decode cL_law 422 = .ok (.aload_n 0, 1) := by decide +kernel
theorem dL_law_423 : decode cL_law 423 = .ok (.iload_n 3, 1) := by decide +kernel
theorem dL_law_424 : decode cL_law 424 = .ok (.iconst 1, 1) := by decide +kernel
theorem dL_law_425 : decode cL_law 425 = .ok (.iadd, 1) := by decide +kernel
theorem dL_law_426 : decode cL_law 426 = .ok (.iaload, 1) := by decide +kernel
theorem dL_law_427 : decode cL_law 427 = .ok (.aload_n 0, 1) := by decide +kernel
theorem dL_law_428 : decode cL_law 428 = .ok (.iload_n 3, 1) := by decide +kernel
theorem dL_law_429 : decode cL_law 429 = .ok (.iconst 2, 1) := by decide +kernel
theorem dL_law_430 : decode cL_law 430 = .ok (.iadd, 1) := by decide +kernel
theorem dL_law_431 : decode cL_law 431 = .ok (.iaload, 1) := by decide +kernel
theorem dL_law_432 : decode cL_law 432 = .ok (.invokevirtual 64, 3) := by decide +kernel
theorem dL_law_435 : decode cL_law 435 = .ok (.if_icmp .eq 372, 3) := by decide +kernel
theorem dL_law_438 : decode cL_law 438 = .ok (.iconst 0, 1) := by decide +kernel
theorem dL_law_439 : decode cL_law 439 = .ok (.ireturn, 1) := by decide +kernel
theorem dL_law_440 : decode cL_law 440 = .ok (.aload_n 1, 1) := by decide +kernel
theorem dL_law_441 : decode cL_law 441 = .ok (.aload_n 0, 1) := by decide +kernel
theorem dL_law_442 : decode cL_law 442 = .ok (.iload_n 3, 1) := by decide +kernel
theorem dL_law_443 : decode cL_law 443 = .ok (.iconst 1, 1) := by decide +kernel
theorem dL_law_444 : decode cL_law 444 = .ok (.iadd, 1) := by decide +kernel
theorem dL_law_445 : decode cL_law 445 = .ok (.iaload, 1) := by decide +kernel
theorem dL_law_446 : decode cL_law 446 = .ok (.invokevirtual 65, 3) := by decide +kernel
theorem dL_law_449 : decode cL_law 449 = .ok (.aload_n 2, 1) := by decide +kernel
theorem dL_law_450 : decode cL_law 450 = .ok (.aload_n 0, 1) := by decide +kernel
theorem dL_law_451 : decode cL_law 451 = .ok (.iload_n 3, 1) := by decide +kernel
theorem dL_law_452 : decode cL_law 452 = .ok (.iconst 1, 1) := by decide +kernel
theorem dL_law_453 : decode cL_law 453 = .ok (.iadd, 1) := by decide +kernel
theorem dL_law_454 : decode cL_law 454 = .ok (.iaload, 1) := by decide +kernel
theorem dL_law_455 : decode cL_law 455 = .ok (.invokevirtual 68, 3) := by decide +kernel
theorem dL_law_458 : decode cL_law 458 = .ok (.if_icmp .eq 349, 3) := by decide +kernel
theorem dL_law_461 : decode cL_law 461 = .ok (.iconst 0, 1) := by decide +kernel
theorem dL_law_462 : decode cL_law 462 = .ok (.ireturn, 1) := by decide +kernel
theorem dL_law_463 : decode cL_law 463 = .ok (.aload_n 1, 1) := by decide +kernel
theorem dL_law_464 : decode cL_law 464 = .ok (.invokevirtual 69, 3) := by decide +kernel
theorem dL_law_467 : decode cL_law 467 = .ok (.aload_n 2, 1) := by decide +kernel
theorem dL_law_468 : decode cL_law 468 = .ok (.invokevirtual 72, 3) := by decide +kernel
theorem dL_law_471 : decode cL_law 471 = .ok (.if_icmp .eq 336, 3) := by decide +kernel
theorem dL_law_474 : decode cL_law 474 = .ok (.iconst 0, 1) := by decide +kernel
theorem dL_law_475 : decode cL_law 475 = .ok (.ireturn, 1) := by decide +kernel
theorem dL_law_476 : decode cL_law 476 = .ok (.aload_n 1, 1) := by decide +kernel
theorem dL_law_477 : decode cL_law 477 = .ok (.aload_n 0, 1) := by decide +kernel
theorem dL_law_478 : decode cL_law 478 = .ok (.iload_n 3, 1) := by decide +kernel
theorem dL_law_479 : decode cL_law 479 = .ok (.iconst 1, 1) := by decide +kernel
theorem dL_law_480 : decode cL_law 480 = .ok (.iadd, 1) := by decide +kernel
theorem dL_law_481 : decode cL_law 481 = .ok (.iaload, 1) := by decide +kernel
theorem dL_law_482 : decode cL_law 482 = .ok (.invokevirtual 73, 3) := by decide +kernel
theorem dL_law_485 : decode cL_law 485 = .ok (.aload_n 2, 1) := by decide +kernel
theorem dL_law_486 : decode cL_law 486 = .ok (.aload_n 0, 1) := by decide +kernel
theorem dL_law_487 : decode cL_law 487 = .ok (.iload_n 3, 1) := by decide +kernel
theorem dL_law_488 : decode cL_law 488 = .ok (.iconst 1, 1) := by decide +kernel
theorem dL_law_489 : decode cL_law 489 = .ok (.iadd, 1) := by decide +kernel
theorem dL_law_490 : decode cL_law 490 = .ok (.iaload, 1) := by decide +kernel
theorem dL_law_491 : decode cL_law 491 = .ok (.invokevirtual 76, 3) := by decide +kernel
theorem dL_law_494 : decode cL_law 494 = .ok (.if_icmp .eq 313, 3) := by decide +kernel
theorem dL_law_497 : decode cL_law 497 = .ok (.iconst 0, 1) := by decide +kernel
theorem dL_law_498 : decode cL_law 498 = .ok (.ireturn, 1) := by decide +kernel
theorem dL_law_499 : decode cL_law 499 = .ok (.aload_n 1, 1) := by decide +kernel
theorem dL_law_500 : decode cL_law 500 = .ok (.invokevirtual 77, 3) := by decide +kernel
theorem dL_law_503 : decode cL_law 503 = .ok (.aload_n 2, 1) := by decide +kernel
theorem dL_law_504 : decode cL_law 504 = .ok (.invokevirtual 80, 3) := by decide +kernel
theorem dL_law_507 : decode cL_law 507 = .ok (.if_icmp .eq 300, 3) := by decide +kernel
theorem dL_law_510 : decode cL_law 510 = .ok (.iconst 0, 1) := by decide +kernel
theorem dL_law_511 : decode cL_law 511 = .ok (.ireturn, 1) := by decide +kernel
theorem dL_law_512 : decode cL_law 512 = .ok (.aload_n 1, 1) := by decide +kernel
theorem dL_law_513 : decode cL_law 513 = .ok (.aload_n 0, 1) := by decide +kernel
theorem dL_law_514 : decode cL_law 514 = .ok (.iload_n 3, 1) := by decide +kernel
theorem dL_law_515 : decode cL_law 515 = .ok (.iconst 1, 1) := by decide +kernel
theorem dL_law_516 : decode cL_law 516 = .ok (.iadd, 1) := by decide +kernel
theorem dL_law_517 : decode cL_law 517 = .ok (.iaload, 1) := by decide +kernel
theorem dL_law_518 : decode cL_law 518 = .ok (.aload_n 0, 1) := by decide +kernel
theorem dL_law_519 : decode cL_law 519 = .ok (.iload_n 3, 1) := by decide +kernel
theorem dL_law_520 : decode cL_law 520 = .ok (.iconst 2, 1) := by decide +kernel
theorem dL_law_521 : decode cL_law 521 = .ok (.iadd, 1) := by decide +kernel
theorem dL_law_522 : decode cL_law 522 = .ok (.iaload, 1) := by decide +kernel
theorem dL_law_523 : decode cL_law 523 = .ok (.aload_n 0, 1) := by decide +kernel
theorem dL_law_524 : decode cL_law 524 = .ok (.iload_n 3, 1) := by decide +kernel
theorem dL_law_525 : decode cL_law 525 = .ok (.iconst 3, 1) := by decide +kernel
theorem dL_law_526 : decode cL_law 526 = .ok (.iadd, 1) := by decide +kernel
theorem dL_law_527 : decode cL_law 527 = .ok (.iaload, 1) := by decide +kernel
theorem dL_law_528 : decode cL_law 528 = .ok (.invokevirtual 81, 3) := by decide +kernel
theorem dL_law_531 : decode cL_law 531 = .ok (.aload_n 2, 1) := by decide +kernel
theorem dL_law_532 : decode cL_law 532 = .ok (.aload_n 0, 1) := by decide +kernel
theorem dL_law_533 : decode cL_law 533 = .ok (.iload_n 3, 1) := by decide +kernel
theorem dL_law_534 : decode cL_law 534 = .ok (.iconst 1, 1) := by decide +kernel
theorem dL_law_535 : decode cL_law 535 = .ok (.iadd, 1) := by decide +kernel
theorem dL_law_536 : decode cL_law 536 = .ok (.iaload, 1) := by decide +kernel
theorem dL_law_537 : decode cL_law 537 = .ok (.aload_n 0, 1) := by decide +kernel
theorem dL_law_538 : decode cL_law 538 = .ok (.iload_n 3, 1) := by decide +kernel
theorem dL_law_539 : decode cL_law 539 = .ok (.iconst 2, 1) := by decide +kernel
theorem dL_law_540 : decode cL_law 540 = .ok (.iadd, 1) := by decide +kernel
theorem dL_law_541 : decode cL_law 541 = .ok (.iaload, 1) := by decide +kernel
theorem dL_law_542 : decode cL_law 542 = .ok (.aload_n 0, 1) := by decide +kernel
theorem dL_law_543 : decode cL_law 543 = .ok (.iload_n 3, 1) := by decide +kernel
theorem dL_law_544 : decode cL_law 544 = .ok (.iconst 3, 1) := by decide +kernel
theorem dL_law_545 : decode cL_law 545 = .ok (.iadd, 1) := by decide +kernel
theorem dL_law_546 : decode cL_law 546 = .ok (.iaload, 1) := by decide +kernel
theorem dL_law_547 : decode cL_law 547 = .ok (.invokevirtual 84, 3) := by decide +kernel
theorem dL_law_550 : decode cL_law 550 = .ok (.if_icmp .eq 257, 3) := by decide +kernel
theorem dL_law_553 : decode cL_law 553 = .ok (.iconst 0, 1) := by decide +kernel
theorem dL_law_554 : decode cL_law 554 = .ok (.ireturn, 1) := by decide +kernel
theorem dL_law_555 : decode cL_law 555 = .ok (.aload_n 1, 1) := by decide +kernel
theorem dL_law_556 : decode cL_law 556 = .ok (.aload_n 0, 1) := by decide +kernel
theorem dL_law_557 : decode cL_law 557 = .ok (.iload_n 3, 1) := by decide +kernel
theorem dL_law_558 : decode cL_law 558 = .ok (.iconst 1, 1) := by decide +kernel
theorem dL_law_559 : decode cL_law 559 = .ok (.iadd, 1) := by decide +kernel
theorem dL_law_560 : decode cL_law 560 = .ok (.iaload, 1) := by decide +kernel
theorem dL_law_561 : decode cL_law 561 = .ok (.invokevirtual 85, 3) := by decide +kernel
theorem dL_law_564 : decode cL_law 564 = .ok (.aload_n 2, 1) := by decide +kernel
theorem dL_law_565 : decode cL_law 565 = .ok (.aload_n 0, 1) := by decide +kernel
theorem dL_law_566 : decode cL_law 566 = .ok (.iload_n 3, 1) := by decide +kernel
theorem dL_law_567 : decode cL_law 567 = .ok (.iconst 1, 1) := by decide +kernel
theorem dL_law_568 : decode cL_law 568 = .ok (.iadd, 1) := by decide +kernel
theorem dL_law_569 : decode cL_law 569 = .ok (.iaload, 1) := by decide +kernel
theorem dL_law_570 : decode cL_law 570 = .ok (.invokevirtual 88, 3) := by decide +kernel
theorem dL_law_573 : decode cL_law 573 = .ok (.if_icmp .eq 234, 3) := by decide +kernel
theorem dL_law_576 : decode cL_law 576 = .ok (.iconst 0, 1) := by decide +kernel
theorem dL_law_577 : decode cL_law 577 = .ok (.ireturn, 1) := by decide +kernel
theorem dL_law_578 : decode cL_law 578 = .ok (.aload_n 1, 1) := by decide +kernel
theorem dL_law_579 : decode cL_law 579 = .ok (.aload_n 0, 1) := by decide +kernel
theorem dL_law_580 : decode cL_law 580 = .ok (.iload_n 3, 1) := by decide +kernel
theorem dL_law_581 : decode cL_law 581 = .ok (.iconst 1, 1) := by decide +kernel
theorem dL_law_582 : decode cL_law 582 = .ok (.iadd, 1) := by decide +kernel
theorem dL_law_583 : decode cL_law 583 = .ok (.iaload, 1) := by decide +kernel
theorem dL_law_584 : decode cL_law 584 = .ok (.aload_n 0, 1) := by decide +kernel
theorem dL_law_585 : decode cL_law 585 = .ok (.iload_n 3, 1) := by decide +kernel
theorem dL_law_586 : decode cL_law 586 = .ok (.iconst 2, 1) := by decide +kernel
theorem dL_law_587 : decode cL_law 587 = .ok (.iadd, 1) := by decide +kernel
theorem dL_law_588 : decode cL_law 588 = .ok (.iaload, 1) := by decide +kernel
theorem dL_law_589 : decode cL_law 589 = .ok (.aload_n 0, 1) := by decide +kernel
theorem dL_law_590 : decode cL_law 590 = .ok (.iload_n 3, 1) := by decide +kernel
theorem dL_law_591 : decode cL_law 591 = .ok (.iconst 3, 1) := by decide +kernel
theorem dL_law_592 : decode cL_law 592 = .ok (.iadd, 1) := by decide +kernel
theorem dL_law_593 : decode cL_law 593 = .ok (.iaload, 1) := by decide +kernel
theorem dL_law_594 : decode cL_law 594 = .ok (.aload_n 0, 1) := by decide +kernel
theorem dL_law_595 : decode cL_law 595 = .ok (.iload_n 3, 1) := by decide +kernel
theorem dL_law_596 : decode cL_law 596 = .ok (.iconst 4, 1) := by decide +kernel
theorem dL_law_597 : decode cL_law 597 = .ok (.iadd, 1) := by decide +kernel
theorem dL_law_598 : decode cL_law 598 = .ok (.iaload, 1) := by decide +kernel
theorem dL_law_599 : decode cL_law 599 = .ok (.invokevirtual 89, 3) := by decide +kernel
theorem dL_law_602 : decode cL_law 602 = .ok (.aload_n 2, 1) := by decide +kernel
theorem dL_law_603 : decode cL_law 603 = .ok (.aload_n 0, 1) := by decide +kernel
theorem dL_law_604 : decode cL_law 604 = .ok (.iload_n 3, 1) := by decide +kernel
theorem dL_law_605 : decode cL_law 605 = .ok (.iconst 1, 1) := by decide +kernel
theorem dL_law_606 : decode cL_law 606 = .ok (.iadd, 1) := by decide +kernel
theorem dL_law_607 : decode cL_law 607 = .ok (.iaload, 1) := by decide +kernel
theorem dL_law_608 : decode cL_law 608 = .ok (.aload_n 0, 1) := by decide +kernel
theorem dL_law_609 : decode cL_law 609 = .ok (.iload_n 3, 1) := by decide +kernel
theorem dL_law_610 : decode cL_law 610 = .ok (.iconst 2, 1) := by decide +kernel
theorem dL_law_611 : decode cL_law 611 = .ok (.iadd, 1) := by decide +kernel
theorem dL_law_612 : decode cL_law 612 = .ok (.iaload, 1) := by decide +kernel
theorem dL_law_613 : decode cL_law 613 = .ok (.aload_n 0, 1) := by decide +kernel
theorem dL_law_614 : decode cL_law 614 = .ok (.iload_n 3, 1) := by decide +kernel
theorem dL_law_615 : decode cL_law 615 = .ok (.iconst 3, 1) := by decide +kernel
theorem dL_law_616 : decode cL_law 616 = .ok (.iadd, 1) := by decide +kernel
theorem dL_law_617 : decode cL_law 617 = .ok (.iaload, 1) := by decide +kernel
theorem dL_law_618 : decode cL_law 618 = .ok (.aload_n 0, 1) := by decide +kernel
theorem dL_law_619 : decode cL_law 619 = .ok (.iload_n 3, 1) := by decide +kernel
theorem dL_law_620 : decode cL_law 620 = .ok (.iconst 4, 1) := by decide +kernel
theorem dL_law_621 : decode cL_law 621 = .ok (.iadd, 1) := by decide +kernel
theorem dL_law_622 : decode cL_law 622 = .ok (.iaload, 1) := by decide +kernel
theorem dL_law_623 : decode cL_law 623 = .ok (.invokevirtual 93, 3) := by decide +kernel
theorem dL_law_626 : decode cL_law 626 = .ok (.if_icmp .eq 181, 3) := by decide +kernel
theorem dL_law_629 : decode cL_law 629 = .ok (.iconst 0, 1) := by decide +kernel
theorem dL_law_630 : decode cL_law 630 = .ok (.ireturn, 1) := by decide +kernel
theorem dL_law_631 : decode cL_law 631 = .ok (.aload_n 1, 1) := by decide +kernel
theorem dL_law_632 : decode cL_law 632 = .ok (.aload_n 0, 1) := by decide +kernel
theorem dL_law_633 : decode cL_law 633 = .ok (.iload_n 3, 1) := by decide +kernel
theorem dL_law_634 : decode cL_law 634 = .ok (.iconst 1, 1) := by decide +kernel
theorem dL_law_635 : decode cL_law 635 = .ok (.iadd, 1) := by decide +kernel
theorem dL_law_636 : decode cL_law 636 = .ok (.iaload, 1) := by decide +kernel
theorem dL_law_637 : decode cL_law 637 = .ok (.aload_n 0, 1) := by decide +kernel
theorem dL_law_638 : decode cL_law 638 = .ok (.iload_n 3, 1) := by decide +kernel
theorem dL_law_639 : decode cL_law 639 = .ok (.iconst 2, 1) := by decide +kernel
theorem dL_law_640 : decode cL_law 640 = .ok (.iadd, 1) := by decide +kernel
theorem dL_law_641 : decode cL_law 641 = .ok (.iaload, 1) := by decide +kernel
theorem dL_law_642 : decode cL_law 642 = .ok (.aload_n 0, 1) := by decide +kernel
theorem dL_law_643 : decode cL_law 643 = .ok (.iload_n 3, 1) := by decide +kernel
theorem dL_law_644 : decode cL_law 644 = .ok (.iconst 3, 1) := by decide +kernel
theorem dL_law_645 : decode cL_law 645 = .ok (.iadd, 1) := by decide +kernel
theorem dL_law_646 : decode cL_law 646 = .ok (.iaload, 1) := by decide +kernel
theorem dL_law_647 : decode cL_law 647 = .ok (.invokevirtual 94, 3) := by decide +kernel
theorem dL_law_650 : decode cL_law 650 = .ok (.aload_n 2, 1) := by decide +kernel
theorem dL_law_651 : decode cL_law 651 = .ok (.aload_n 0, 1) := by decide +kernel
theorem dL_law_652 : decode cL_law 652 = .ok (.iload_n 3, 1) := by decide +kernel
theorem dL_law_653 : decode cL_law 653 = .ok (.iconst 1, 1) := by decide +kernel
theorem dL_law_654 : decode cL_law 654 = .ok (.iadd, 1) := by decide +kernel
theorem dL_law_655 : decode cL_law 655 = .ok (.iaload, 1) := by decide +kernel
theorem dL_law_656 : decode cL_law 656 = .ok (.aload_n 0, 1) := by decide +kernel
theorem dL_law_657 : decode cL_law 657 = .ok (.iload_n 3, 1) := by decide +kernel
theorem dL_law_658 : decode cL_law 658 = .ok (.iconst 2, 1) := by decide +kernel
theorem dL_law_659 : decode cL_law 659 = .ok (.iadd, 1) := by decide +kernel
theorem dL_law_660 : decode cL_law 660 = .ok (.iaload, 1) := by decide +kernel
theorem dL_law_661 : decode cL_law 661 = .ok (.aload_n 0, 1) := by decide +kernel
theorem dL_law_662 : decode cL_law 662 = .ok (.iload_n 3, 1) := by decide +kernel
theorem dL_law_663 : decode cL_law 663 = .ok (.iconst 3, 1) := by decide +kernel
theorem dL_law_664 : decode cL_law 664 = .ok (.iadd, 1) := by decide +kernel
theorem dL_law_665 : decode cL_law 665 = .ok (.iaload, 1) := by decide +kernel
theorem dL_law_666 : decode cL_law 666 = .ok (.invokevirtual 97, 3) := by decide +kernel
theorem dL_law_669 : decode cL_law 669 = .ok (.if_icmp .eq 138, 3) := by decide +kernel
theorem dL_law_672 : decode cL_law 672 = .ok (.iconst 0, 1) := by decide +kernel
theorem dL_law_673 : decode cL_law 673 = .ok (.ireturn, 1) := by decide +kernel
theorem dL_law_674 : decode cL_law 674 = .ok (.aload_n 1, 1) := by decide +kernel
theorem dL_law_675 : decode cL_law 675 = .ok (.aload_n 0, 1) := by decide +kernel
theorem dL_law_676 : decode cL_law 676 = .ok (.iload_n 3, 1) := by decide +kernel
theorem dL_law_677 : decode cL_law 677 = .ok (.iconst 1, 1) := by decide +kernel
theorem dL_law_678 : decode cL_law 678 = .ok (.iadd, 1) := by decide +kernel
theorem dL_law_679 : decode cL_law 679 = .ok (.iaload, 1) := by decide +kernel
theorem dL_law_680 : decode cL_law 680 = .ok (.aload_n 0, 1) := by decide +kernel
theorem dL_law_681 : decode cL_law 681 = .ok (.iload_n 3, 1) := by decide +kernel
theorem dL_law_682 : decode cL_law 682 = .ok (.iconst 2, 1) := by decide +kernel
theorem dL_law_683 : decode cL_law 683 = .ok (.iadd, 1) := by decide +kernel
theorem dL_law_684 : decode cL_law 684 = .ok (.iaload, 1) := by decide +kernel
theorem dL_law_685 : decode cL_law 685 = .ok (.aload_n 0, 1) := by decide +kernel
theorem dL_law_686 : decode cL_law 686 = .ok (.iload_n 3, 1) := by decide +kernel
theorem dL_law_687 : decode cL_law 687 = .ok (.iconst 3, 1) := by decide +kernel
theorem dL_law_688 : decode cL_law 688 = .ok (.iadd, 1) := by decide +kernel
theorem dL_law_689 : decode cL_law 689 = .ok (.iaload, 1) := by decide +kernel
theorem dL_law_690 : decode cL_law 690 = .ok (.aload_n 0, 1) := by decide +kernel
theorem dL_law_691 : decode cL_law 691 = .ok (.iload_n 3, 1) := by decide +kernel
theorem dL_law_692 : decode cL_law 692 = .ok (.iconst 4, 1) := by decide +kernel
theorem dL_law_693 : decode cL_law 693 = .ok (.iadd, 1) := by decide +kernel
theorem dL_law_694 : decode cL_law 694 = .ok (.iaload, 1) := by decide +kernel
theorem dL_law_695 : decode cL_law 695 = .ok (.aload_n 0, 1) := by decide +kernel
theorem dL_law_696 : decode cL_law 696 = .ok (.iload_n 3, 1) := by decide +kernel
theorem dL_law_697 : decode cL_law 697 = .ok (.iconst 5, 1) := by decide +kernel
theorem dL_law_698 : decode cL_law 698 = .ok (.iadd, 1) := by decide +kernel
theorem dL_law_699 : decode cL_law 699 = .ok (.iaload, 1) := by decide +kernel
theorem dL_law_700 : decode cL_law 700 = .ok (.invokevirtual 98, 3) := by decide +kernel
theorem dL_law_703 : decode cL_law 703 = .ok (.aload_n 2, 1) := by decide +kernel
theorem dL_law_704 : decode cL_law 704 = .ok (.aload_n 0, 1) := by decide +kernel
theorem dL_law_705 : decode cL_law 705 = .ok (.iload_n 3, 1) := by decide +kernel
theorem dL_law_706 : decode cL_law 706 = .ok (.iconst 1, 1) := by decide +kernel
theorem dL_law_707 : decode cL_law 707 = .ok (.iadd, 1) := by decide +kernel
theorem dL_law_708 : decode cL_law 708 = .ok (.iaload, 1) := by decide +kernel
theorem dL_law_709 : decode cL_law 709 = .ok (.aload_n 0, 1) := by decide +kernel
theorem dL_law_710 : decode cL_law 710 = .ok (.iload_n 3, 1) := by decide +kernel
theorem dL_law_711 : decode cL_law 711 = .ok (.iconst 2, 1) := by decide +kernel
theorem dL_law_712 : decode cL_law 712 = .ok (.iadd, 1) := by decide +kernel
theorem dL_law_713 : decode cL_law 713 = .ok (.iaload, 1) := by decide +kernel
theorem dL_law_714 : decode cL_law 714 = .ok (.aload_n 0, 1) := by decide +kernel
theorem dL_law_715 : decode cL_law 715 = .ok (.iload_n 3, 1) := by decide +kernel
theorem dL_law_716 : decode cL_law 716 = .ok (.iconst 3, 1) := by decide +kernel
theorem dL_law_717 : decode cL_law 717 = .ok (.iadd, 1) := by decide +kernel
theorem dL_law_718 : decode cL_law 718 = .ok (.iaload, 1) := by decide +kernel
theorem dL_law_719 : decode cL_law 719 = .ok (.aload_n 0, 1) := by decide +kernel
theorem dL_law_720 : decode cL_law 720 = .ok (.iload_n 3, 1) := by decide +kernel
theorem dL_law_721 : decode cL_law 721 = .ok (.iconst 4, 1) := by decide +kernel
theorem dL_law_722 : decode cL_law 722 = .ok (.iadd, 1) := by decide +kernel
theorem dL_law_723 : decode cL_law 723 = .ok (.iaload, 1) := by decide +kernel
theorem dL_law_724 : decode cL_law 724 = .ok (.aload_n 0, 1) := by decide +kernel
theorem dL_law_725 : decode cL_law 725 = .ok (.iload_n 3, 1) := by decide +kernel
theorem dL_law_726 : decode cL_law 726 = .ok (.iconst 5, 1) := by decide +kernel
theorem dL_law_727 : decode cL_law 727 = .ok (.iadd, 1) := by decide +kernel
theorem dL_law_728 : decode cL_law 728 = .ok (.iaload, 1) := by decide +kernel
theorem dL_law_729 : decode cL_law 729 = .ok (.invokevirtual 102, 3) := by decide +kernel
theorem dL_law_732 : decode cL_law 732 = .ok (.if_icmp .eq 75, 3) := by decide +kernel
theorem dL_law_735 : decode cL_law 735 = .ok (.iconst 0, 1) := by decide +kernel
theorem dL_law_736 : decode cL_law 736 = .ok (.ireturn, 1) := by decide +kernel
theorem dL_law_737 : decode cL_law 737 = .ok (.aload_n 1, 1) := by decide +kernel
theorem dL_law_738 : decode cL_law 738 = .ok (.aload_n 0, 1) := by decide +kernel
theorem dL_law_739 : decode cL_law 739 = .ok (.iload_n 3, 1) := by decide +kernel
theorem dL_law_740 : decode cL_law 740 = .ok (.iconst 1, 1) := by decide +kernel
theorem dL_law_741 : decode cL_law 741 = .ok (.iadd, 1) := by decide +kernel
theorem dL_law_742 : decode cL_law 742 = .ok (.iaload, 1) := by decide +kernel
theorem dL_law_743 : decode cL_law 743 = .ok (.aload_n 0, 1) := by decide +kernel
theorem dL_law_744 : decode cL_law 744 = .ok (.iload_n 3, 1) := by decide +kernel
theorem dL_law_745 : decode cL_law 745 = .ok (.iconst 2, 1) := by decide +kernel
theorem dL_law_746 : decode cL_law 746 = .ok (.iadd, 1) := by decide +kernel
theorem dL_law_747 : decode cL_law 747 = .ok (.iaload, 1) := by decide +kernel
theorem dL_law_748 : decode cL_law 748 = .ok (.invokevirtual 103, 3) := by decide +kernel
theorem dL_law_751 : decode cL_law 751 = .ok (.aload_n 2, 1) := by decide +kernel
theorem dL_law_752 : decode cL_law 752 = .ok (.aload_n 0, 1) := by decide +kernel
theorem dL_law_753 : decode cL_law 753 = .ok (.iload_n 3, 1) := by decide +kernel
theorem dL_law_754 : decode cL_law 754 = .ok (.iconst 1, 1) := by decide +kernel
theorem dL_law_755 : decode cL_law 755 = .ok (.iadd, 1) := by decide +kernel
theorem dL_law_756 : decode cL_law 756 = .ok (.iaload, 1) := by decide +kernel
theorem dL_law_757 : decode cL_law 757 = .ok (.aload_n 0, 1) := by decide +kernel
theorem dL_law_758 : decode cL_law 758 = .ok (.iload_n 3, 1) := by decide +kernel
theorem dL_law_759 : decode cL_law 759 = .ok (.iconst 2, 1) := by decide +kernel
theorem dL_law_760 : decode cL_law 760 = .ok (.iadd, 1) := by decide +kernel
theorem dL_law_761 : decode cL_law 761 = .ok (.iaload, 1) := by decide +kernel
theorem dL_law_762 : decode cL_law 762 = .ok (.invokevirtual 106, 3) := by decide +kernel
theorem dL_law_765 : decode cL_law 765 = .ok (.if_icmp .eq 42, 3) := by decide +kernel
theorem dL_law_768 : decode cL_law 768 = .ok (.iconst 0, 1) := by decide +kernel
theorem dL_law_769 : decode cL_law 769 = .ok (.ireturn, 1) := by decide +kernel
theorem dL_law_770 : decode cL_law 770 = .ok (.aload_n 1, 1) := by decide +kernel
theorem dL_law_771 : decode cL_law 771 = .ok (.aload_n 0, 1) := by decide +kernel
theorem dL_law_772 : decode cL_law 772 = .ok (.iload_n 3, 1) := by decide +kernel
theorem dL_law_773 : decode cL_law 773 = .ok (.iconst 1, 1) := by decide +kernel
theorem dL_law_774 : decode cL_law 774 = .ok (.iadd, 1) := by decide +kernel
theorem dL_law_775 : decode cL_law 775 = .ok (.iaload, 1) := by decide +kernel
theorem dL_law_776 : decode cL_law 776 = .ok (.invokevirtual 107, 3) := by decide +kernel
theorem dL_law_779 : decode cL_law 779 = .ok (.aload_n 2, 1) := by decide +kernel
theorem dL_law_780 : decode cL_law 780 = .ok (.aload_n 0, 1) := by decide +kernel
theorem dL_law_781 : decode cL_law 781 = .ok (.iload_n 3, 1) := by decide +kernel
theorem dL_law_782 : decode cL_law 782 = .ok (.iconst 1, 1) := by decide +kernel
theorem dL_law_783 : decode cL_law 783 = .ok (.iadd, 1) := by decide +kernel
theorem dL_law_784 : decode cL_law 784 = .ok (.iaload, 1) := by decide +kernel
theorem dL_law_785 : decode cL_law 785 = .ok (.invokevirtual 110, 3) := by decide +kernel
theorem dL_law_788 : decode cL_law 788 = .ok (.if_icmp .eq 19, 3) := by decide +kernel
theorem dL_law_791 : decode cL_law 791 = .ok (.iconst 0, 1) := by decide +kernel
theorem dL_law_792 : decode cL_law 792 = .ok (.ireturn, 1) := by decide +kernel
theorem dL_law_793 : decode cL_law 793 = .ok (.aload_n 1, 1) := by decide +kernel
theorem dL_law_794 : decode cL_law 794 = .ok (.invokevirtual 111, 3) := by decide +kernel
theorem dL_law_797 : decode cL_law 797 = .ok (.aload_n 2, 1) := by decide +kernel
theorem dL_law_798 : decode cL_law 798 = .ok (.invokevirtual 115, 3) := by decide +kernel
theorem dL_law_801 : decode cL_law 801 = .ok (.lcmp, 1) := by decide +kernel
theorem dL_law_802 : decode cL_law 802 = .ok (.ifCond .eq 5, 3) := by decide +kernel
theorem dL_law_805 : decode cL_law 805 = .ok (.iconst 0, 1) := by decide +kernel
theorem dL_law_806 : decode cL_law 806 = .ok (.ireturn, 1) := by decide +kernel
theorem dL_law_807 : decode cL_law 807 = .ok (.iinc 3 6, 3) := by decide +kernel
theorem dL_law_810 : decode cL_law 810 = .ok (.goto (-792), 3) := by decide +kernel
theorem dL_law_813 : decode cL_law 813 = .ok (.iconst 1, 1) := by decide +kernel
theorem dL_law_814 : decode cL_law 814 = .ok (.ireturn, 1) := by decide +kernel
end
section
/-! ===== methods, links ===== -/
theorem in_X0 : ∀ w ∈ u_ws RX0 TX0 13, w ∈ gtb := by decide +kernel
theorem in_X1 : ∀ w ∈ u_ws RX1 TX1 4, w ∈ gtb := by decide +kernel
theorem in_X2 : ∀ w ∈ u_ws RX2 TX2 6, w ∈ gtb := by decide +kernel
theorem in_X3 : ∀ w ∈ u_ws RX3 TX3 4, w ∈ gtb := by decide +kernel
theorem in_X4 : ∀ w ∈ u_ws RX4 TX4 3, w ∈ gtb := by decide +kernel
theorem in_X5 : ∀ w ∈ u_ws RX5 TX5 7, w ∈ gtb := by decide +kernel
theorem in_X6 : ∀ w ∈ u_ws RX6 TX6 10, w ∈ gtb := by decide +kernel
theorem in_X7 : ∀ w ∈ u_ws RX7 TX7 31, w ∈ gtb := by decide +kernel
theorem fk_X0_9 : FK RX0 9 0 0 := ⟨RX0, TX0, 13, tyX0, rfl, by decide, gtb_in 100 (by decide +kernel) (by decide +kernel), in_X0, rfl, tyX0_ok, nmX0⟩
theorem fk_X0_15 : FK RX0 15 0 1 := ⟨RX0, TX0, 13, tyX0, rfl, by decide, gtb_in 101 (by decide +kernel) (by decide +kernel), in_X0, rfl, tyX0_ok, nmX0⟩
theorem fk_X0_18 : FK RX0 18 0 2 := ⟨RX0, TX0, 13, tyX0, rfl, by decide, gtb_in 105 (by decide +kernel) (by decide +kernel), in_X0, rfl, tyX0_ok, nmX0⟩
theorem fk_X0_21 : FK RX0 21 0 3 := ⟨RX0, TX0, 13, tyX0, rfl, by decide, gtb_in 107 (by decide +kernel) (by decide +kernel), in_X0, rfl, tyX0_ok, nmX0⟩
theorem fk_X0_24 : FK RX0 24 0 4 := ⟨RX0, TX0, 13, tyX0, rfl, by decide, gtb_in 109 (by decide +kernel) (by decide +kernel), in_X0, rfl, tyX0_ok, nmX0⟩
theorem fk_X0_27 : FK RX0 27 0 5 := ⟨RX0, TX0, 13, tyX0, rfl, by decide, gtb_in 111 (by decide +kernel) (by decide +kernel), in_X0, rfl, tyX0_ok, nmX0⟩
theorem fk_X0_30 : FK RX0 30 0 6 := ⟨RX0, TX0, 13, tyX0, rfl, by decide, gtb_in 115 (by decide +kernel) (by decide +kernel), in_X0, rfl, tyX0_ok, nmX0⟩
theorem fk_X0_33 : FK RX0 33 0 7 := ⟨RX0, TX0, 13, tyX0, rfl, by decide, gtb_in 119 (by decide +kernel) (by decide +kernel), in_X0, rfl, tyX0_ok, nmX0⟩
theorem fk_X0_36 : FK RX0 36 0 11 := ⟨RX0, TX0, 13, tyX0, rfl, by decide, gtb_in 133 (by decide +kernel) (by decide +kernel), in_X0, rfl, tyX0_ok, nmX0⟩
theorem fk_X0_40 : FK RX0 40 0 12 := ⟨RX0, TX0, 13, tyX0, rfl, by decide, gtb_in 135 (by decide +kernel) (by decide +kernel), in_X0, rfl, tyX0_ok, nmX0⟩
theorem fk_X0_43 : FK RX0 43 0 8 := ⟨RX0, TX0, 13, tyX0, rfl, by decide, gtb_in 123 (by decide +kernel) (by decide +kernel), in_X0, rfl, tyX0_ok, nmX0⟩
theorem fk_X0_46 : FK RX0 46 0 9 := ⟨RX0, TX0, 13, tyX0, rfl, by decide, gtb_in 127 (by decide +kernel) (by decide +kernel), in_X0, rfl, tyX0_ok, nmX0⟩
theorem fk_X0_49 : FK RX0 49 0 10 := ⟨RX0, TX0, 13, tyX0, rfl, by decide, gtb_in 131 (by decide +kernel) (by decide +kernel), in_X0, rfl, tyX0_ok, nmX0⟩
theorem fk_X1_14 : FK RX1 14 1 0 := ⟨RX1, TX1, 4, tyX1, rfl, by decide, gtb_in 197 (by decide +kernel) (by decide +kernel), in_X1, rfl, tyX1_ok, nmX1⟩
theorem fk_X1_20 : FK RX1 20 1 1 := ⟨RX1, TX1, 4, tyX1, rfl, by decide, gtb_in 199 (by decide +kernel) (by decide +kernel), in_X1, rfl, tyX1_ok, nmX1⟩
theorem fk_X1_24 : FK RX1 24 1 2 := ⟨RX1, TX1, 4, tyX1, rfl, by decide, gtb_in 200 (by decide +kernel) (by decide +kernel), in_X1, rfl, tyX1_ok, nmX1⟩
theorem fk_X1_28 : FK RX1 28 1 3 := ⟨RX1, TX1, 4, tyX1, rfl, by decide, gtb_in 202 (by decide +kernel) (by decide +kernel), in_X1, rfl, tyX1_ok, nmX1⟩
theorem fk_X1_31 : FK RX1 31 0 9 := ⟨RX0, TX0, 13, tyX0, rfl, by decide, gtb_in 128 (by decide +kernel) (by decide +kernel), in_X0, rfl, tyX0_ok, nmX0⟩
theorem fk_X1_42 : FK RX1 42 0 1 := ⟨RX0, TX0, 13, tyX0, rfl, by decide, gtb_in 102 (by decide +kernel) (by decide +kernel), in_X0, rfl, tyX0_ok, nmX0⟩
theorem fk_X1_45 : FK RX1 45 0 7 := ⟨RX0, TX0, 13, tyX0, rfl, by decide, gtb_in 120 (by decide +kernel) (by decide +kernel), in_X0, rfl, tyX0_ok, nmX0⟩
theorem fk_X1_55 : FK RX1 55 0 5 := ⟨RX0, TX0, 13, tyX0, rfl, by decide, gtb_in 112 (by decide +kernel) (by decide +kernel), in_X0, rfl, tyX0_ok, nmX0⟩
theorem fk_X1_62 : FK RX1 62 0 6 := ⟨RX0, TX0, 13, tyX0, rfl, by decide, gtb_in 116 (by decide +kernel) (by decide +kernel), in_X0, rfl, tyX0_ok, nmX0⟩
theorem fk_X1_94 : FK RX1 94 3 2 := ⟨RX3, TX3, 4, tyX3, rfl, by decide, gtb_in 185 (by decide +kernel) (by decide +kernel), in_X3, rfl, tyX3_ok, nmX3⟩
theorem fk_X2_9 : FK RX2 9 2 0 := ⟨RX2, TX2, 6, tyX2, rfl, by decide, gtb_in 254 (by decide +kernel) (by decide +kernel), in_X2, rfl, tyX2_ok, nmX2⟩
theorem fk_X2_15 : FK RX2 15 2 1 := ⟨RX2, TX2, 6, tyX2, rfl, by decide, gtb_in 255 (by decide +kernel) (by decide +kernel), in_X2, rfl, tyX2_ok, nmX2⟩
theorem fk_X2_19 : FK RX2 19 2 2 := ⟨RX2, TX2, 6, tyX2, rfl, by decide, gtb_in 256 (by decide +kernel) (by decide +kernel), in_X2, rfl, tyX2_ok, nmX2⟩
theorem fk_X2_22 : FK RX2 22 2 3 := ⟨RX2, TX2, 6, tyX2, rfl, by decide, gtb_in 257 (by decide +kernel) (by decide +kernel), in_X2, rfl, tyX2_ok, nmX2⟩
theorem fk_X2_25 : FK RX2 25 2 4 := ⟨RX2, TX2, 6, tyX2, rfl, by decide, gtb_in 258 (by decide +kernel) (by decide +kernel), in_X2, rfl, tyX2_ok, nmX2⟩
theorem fk_X2_28 : FK RX2 28 2 5 := ⟨RX2, TX2, 6, tyX2, rfl, by decide, gtb_in 259 (by decide +kernel) (by decide +kernel), in_X2, rfl, tyX2_ok, nmX2⟩
theorem fk_X2_32 : FK RX2 32 0 9 := ⟨RX0, TX0, 13, tyX0, rfl, by decide, gtb_in 126 (by decide +kernel) (by decide +kernel), in_X0, rfl, tyX0_ok, nmX0⟩
theorem fk_X2_53 : FK RX2 53 0 5 := ⟨RX0, TX0, 13, tyX0, rfl, by decide, gtb_in 114 (by decide +kernel) (by decide +kernel), in_X0, rfl, tyX0_ok, nmX0⟩
theorem fk_X2_56 : FK RX2 56 0 6 := ⟨RX0, TX0, 13, tyX0, rfl, by decide, gtb_in 118 (by decide +kernel) (by decide +kernel), in_X0, rfl, tyX0_ok, nmX0⟩
theorem fk_X2_59 : FK RX2 59 0 1 := ⟨RX0, TX0, 13, tyX0, rfl, by decide, gtb_in 104 (by decide +kernel) (by decide +kernel), in_X0, rfl, tyX0_ok, nmX0⟩
theorem fk_X2_62 : FK RX2 62 0 7 := ⟨RX0, TX0, 13, tyX0, rfl, by decide, gtb_in 122 (by decide +kernel) (by decide +kernel), in_X0, rfl, tyX0_ok, nmX0⟩
theorem fk_X3_15 : FK RX3 15 3 0 := ⟨RX3, TX3, 4, tyX3, rfl, by decide, gtb_in 179 (by decide +kernel) (by decide +kernel), in_X3, rfl, tyX3_ok, nmX3⟩
theorem fk_X3_21 : FK RX3 21 3 1 := ⟨RX3, TX3, 4, tyX3, rfl, by decide, gtb_in 181 (by decide +kernel) (by decide +kernel), in_X3, rfl, tyX3_ok, nmX3⟩
theorem fk_X3_24 : FK RX3 24 3 2 := ⟨RX3, TX3, 4, tyX3, rfl, by decide, gtb_in 183 (by decide +kernel) (by decide +kernel), in_X3, rfl, tyX3_ok, nmX3⟩
theorem fk_X3_27 : FK RX3 27 3 3 := ⟨RX3, TX3, 4, tyX3, rfl, by decide, gtb_in 186 (by decide +kernel) (by decide +kernel), in_X3, rfl, tyX3_ok, nmX3⟩
theorem fk_X4_9 : FK RX4 9 4 0 := ⟨RX4, TX4, 3, tyX4, rfl, by decide, gtb_in 281 (by decide +kernel) (by decide +kernel), in_X4, rfl, tyX4_ok, nmX4⟩
theorem fk_X4_15 : FK RX4 15 4 1 := ⟨RX4, TX4, 3, tyX4, rfl, by decide, gtb_in 283 (by decide +kernel) (by decide +kernel), in_X4, rfl, tyX4_ok, nmX4⟩
theorem fk_X4_19 : FK RX4 19 4 2 := ⟨RX4, TX4, 3, tyX4, rfl, by decide, gtb_in 285 (by decide +kernel) (by decide +kernel), in_X4, rfl, tyX4_ok, nmX4⟩
theorem fk_X5_14 : FK RX5 14 5 0 := ⟨RX5, TX5, 7, tyX5, rfl, by decide, gtb_in 223 (by decide +kernel) (by decide +kernel), in_X5, rfl, tyX5_ok, nmX5⟩
theorem fk_X5_20 : FK RX5 20 5 1 := ⟨RX5, TX5, 7, tyX5, rfl, by decide, gtb_in 225 (by decide +kernel) (by decide +kernel), in_X5, rfl, tyX5_ok, nmX5⟩
theorem fk_X5_23 : FK RX5 23 5 2 := ⟨RX5, TX5, 7, tyX5, rfl, by decide, gtb_in 226 (by decide +kernel) (by decide +kernel), in_X5, rfl, tyX5_ok, nmX5⟩
theorem fk_X5_27 : FK RX5 27 5 3 := ⟨RX5, TX5, 7, tyX5, rfl, by decide, gtb_in 227 (by decide +kernel) (by decide +kernel), in_X5, rfl, tyX5_ok, nmX5⟩
theorem fk_X5_30 : FK RX5 30 5 5 := ⟨RX5, TX5, 7, tyX5, rfl, by decide, gtb_in 230 (by decide +kernel) (by decide +kernel), in_X5, rfl, tyX5_ok, nmX5⟩
theorem fk_X5_34 : FK RX5 34 0 9 := ⟨RX0, TX0, 13, tyX0, rfl, by decide, gtb_in 125 (by decide +kernel) (by decide +kernel), in_X0, rfl, tyX0_ok, nmX0⟩
theorem fk_X5_38 : FK RX5 38 0 10 := ⟨RX0, TX0, 13, tyX0, rfl, by decide, gtb_in 130 (by decide +kernel) (by decide +kernel), in_X0, rfl, tyX0_ok, nmX0⟩
theorem fk_X5_41 : FK RX5 41 5 6 := ⟨RX5, TX5, 7, tyX5, rfl, by decide, gtb_in 232 (by decide +kernel) (by decide +kernel), in_X5, rfl, tyX5_ok, nmX5⟩
theorem fk_X5_48 : FK RX5 48 3 0 := ⟨RX3, TX3, 4, tyX3, rfl, by decide, gtb_in 180 (by decide +kernel) (by decide +kernel), in_X3, rfl, tyX3_ok, nmX3⟩
theorem fk_X5_51 : FK RX5 51 3 1 := ⟨RX3, TX3, 4, tyX3, rfl, by decide, gtb_in 182 (by decide +kernel) (by decide +kernel), in_X3, rfl, tyX3_ok, nmX3⟩
theorem fk_X5_54 : FK RX5 54 3 2 := ⟨RX3, TX3, 4, tyX3, rfl, by decide, gtb_in 184 (by decide +kernel) (by decide +kernel), in_X3, rfl, tyX3_ok, nmX3⟩
theorem fk_X5_57 : FK RX5 57 3 3 := ⟨RX3, TX3, 4, tyX3, rfl, by decide, gtb_in 187 (by decide +kernel) (by decide +kernel), in_X3, rfl, tyX3_ok, nmX3⟩
theorem fk_X5_78 : FK RX5 78 0 1 := ⟨RX0, TX0, 13, tyX0, rfl, by decide, gtb_in 103 (by decide +kernel) (by decide +kernel), in_X0, rfl, tyX0_ok, nmX0⟩
theorem fk_X5_81 : FK RX5 81 0 5 := ⟨RX0, TX0, 13, tyX0, rfl, by decide, gtb_in 113 (by decide +kernel) (by decide +kernel), in_X0, rfl, tyX0_ok, nmX0⟩
theorem fk_X5_84 : FK RX5 84 0 6 := ⟨RX0, TX0, 13, tyX0, rfl, by decide, gtb_in 117 (by decide +kernel) (by decide +kernel), in_X0, rfl, tyX0_ok, nmX0⟩
theorem fk_X5_87 : FK RX5 87 0 7 := ⟨RX0, TX0, 13, tyX0, rfl, by decide, gtb_in 121 (by decide +kernel) (by decide +kernel), in_X0, rfl, tyX0_ok, nmX0⟩
theorem fk_X5_108 : FK RX5 108 5 4 := ⟨RX5, TX5, 7, tyX5, rfl, by decide, gtb_in 228 (by decide +kernel) (by decide +kernel), in_X5, rfl, tyX5_ok, nmX5⟩
theorem fk_X6_10 : FK RX6 10 6 0 := ⟨RX6, TX6, 10, tyX6, rfl, by decide, gtb_in 294 (by decide +kernel) (by decide +kernel), in_X6, rfl, tyX6_ok, nmX6⟩
theorem fk_X6_19 : FK RX6 19 6 1 := ⟨RX6, TX6, 10, tyX6, rfl, by decide, gtb_in 295 (by decide +kernel) (by decide +kernel), in_X6, rfl, tyX6_ok, nmX6⟩
theorem fk_X6_28 : FK RX6 28 6 2 := ⟨RX6, TX6, 10, tyX6, rfl, by decide, gtb_in 296 (by decide +kernel) (by decide +kernel), in_X6, rfl, tyX6_ok, nmX6⟩
theorem fk_X6_35 : FK RX6 35 6 3 := ⟨RX6, TX6, 10, tyX6, rfl, by decide, gtb_in 297 (by decide +kernel) (by decide +kernel), in_X6, rfl, tyX6_ok, nmX6⟩
theorem fk_X6_42 : FK RX6 42 6 4 := ⟨RX6, TX6, 10, tyX6, rfl, by decide, gtb_in 298 (by decide +kernel) (by decide +kernel), in_X6, rfl, tyX6_ok, nmX6⟩
theorem fk_X6_48 : FK RX6 48 6 5 := ⟨RX6, TX6, 10, tyX6, rfl, by decide, gtb_in 299 (by decide +kernel) (by decide +kernel), in_X6, rfl, tyX6_ok, nmX6⟩
theorem fk_X6_53 : FK RX6 53 6 6 := ⟨RX6, TX6, 10, tyX6, rfl, by decide, gtb_in 300 (by decide +kernel) (by decide +kernel), in_X6, rfl, tyX6_ok, nmX6⟩
theorem fk_X6_70 : FK RX6 70 0 8 := ⟨RX0, TX0, 13, tyX0, rfl, by decide, gtb_in 124 (by decide +kernel) (by decide +kernel), in_X0, rfl, tyX0_ok, nmX0⟩
theorem fk_X6_73 : FK RX6 73 0 11 := ⟨RX0, TX0, 13, tyX0, rfl, by decide, gtb_in 134 (by decide +kernel) (by decide +kernel), in_X0, rfl, tyX0_ok, nmX0⟩
theorem fk_X6_88 : FK RX6 88 4 2 := ⟨RX4, TX4, 3, tyX4, rfl, by decide, gtb_in 286 (by decide +kernel) (by decide +kernel), in_X4, rfl, tyX4_ok, nmX4⟩
theorem fk_X6_97 : FK RX6 97 0 2 := ⟨RX0, TX0, 13, tyX0, rfl, by decide, gtb_in 106 (by decide +kernel) (by decide +kernel), in_X0, rfl, tyX0_ok, nmX0⟩
theorem fk_X6_101 : FK RX6 101 0 3 := ⟨RX0, TX0, 13, tyX0, rfl, by decide, gtb_in 108 (by decide +kernel) (by decide +kernel), in_X0, rfl, tyX0_ok, nmX0⟩
theorem fk_X6_106 : FK RX6 106 0 4 := ⟨RX0, TX0, 13, tyX0, rfl, by decide, gtb_in 110 (by decide +kernel) (by decide +kernel), in_X0, rfl, tyX0_ok, nmX0⟩
theorem fk_X6_109 : FK RX6 109 1 0 := ⟨RX1, TX1, 4, tyX1, rfl, by decide, gtb_in 198 (by decide +kernel) (by decide +kernel), in_X1, rfl, tyX1_ok, nmX1⟩
theorem fk_X6_116 : FK RX6 116 1 2 := ⟨RX1, TX1, 4, tyX1, rfl, by decide, gtb_in 201 (by decide +kernel) (by decide +kernel), in_X1, rfl, tyX1_ok, nmX1⟩
theorem fk_X6_119 : FK RX6 119 1 3 := ⟨RX1, TX1, 4, tyX1, rfl, by decide, gtb_in 203 (by decide +kernel) (by decide +kernel), in_X1, rfl, tyX1_ok, nmX1⟩
theorem fk_X6_122 : FK RX6 122 6 8 := ⟨RX6, TX6, 10, tyX6, rfl, by decide, gtb_in 302 (by decide +kernel) (by decide +kernel), in_X6, rfl, tyX6_ok, nmX6⟩
theorem fk_X6_126 : FK RX6 126 6 9 := ⟨RX6, TX6, 10, tyX6, rfl, by decide, gtb_in 303 (by decide +kernel) (by decide +kernel), in_X6, rfl, tyX6_ok, nmX6⟩
theorem fk_X6_136 : FK RX6 136 0 10 := ⟨RX0, TX0, 13, tyX0, rfl, by decide, gtb_in 132 (by decide +kernel) (by decide +kernel), in_X0, rfl, tyX0_ok, nmX0⟩
theorem fk_X6_142 : FK RX6 142 5 5 := ⟨RX5, TX5, 7, tyX5, rfl, by decide, gtb_in 231 (by decide +kernel) (by decide +kernel), in_X5, rfl, tyX5_ok, nmX5⟩
theorem fk_X6_145 : FK RX6 145 5 4 := ⟨RX5, TX5, 7, tyX5, rfl, by decide, gtb_in 229 (by decide +kernel) (by decide +kernel), in_X5, rfl, tyX5_ok, nmX5⟩
theorem fk_X6_172 : FK RX6 172 4 1 := ⟨RX4, TX4, 3, tyX4, rfl, by decide, gtb_in 284 (by decide +kernel) (by decide +kernel), in_X4, rfl, tyX4_ok, nmX4⟩
theorem fk_X6_179 : FK RX6 179 4 0 := ⟨RX4, TX4, 3, tyX4, rfl, by decide, gtb_in 282 (by decide +kernel) (by decide +kernel), in_X4, rfl, tyX4_ok, nmX4⟩
theorem fk_X6_196 : FK RX6 196 0 9 := ⟨RX0, TX0, 13, tyX0, rfl, by decide, gtb_in 129 (by decide +kernel) (by decide +kernel), in_X0, rfl, tyX0_ok, nmX0⟩
theorem fk_X6_205 : FK RX6 205 6 7 := ⟨RX6, TX6, 10, tyX6, rfl, by decide, gtb_in 301 (by decide +kernel) (by decide +kernel), in_X6, rfl, tyX6_ok, nmX6⟩
theorem fk_X6_285 : FK RX6 285 5 0 := ⟨RX5, TX5, 7, tyX5, rfl, by decide, gtb_in 224 (by decide +kernel) (by decide +kernel), in_X5, rfl, tyX5_ok, nmX5⟩
theorem fk_X7_7 : FK RX7 7 7 1 := ⟨RX7, TX7, 31, tyX7, rfl, by decide, gtb_in 733 (by decide +kernel) (by decide +kernel), in_X7, rfl, tyX7_ok, nmX7⟩
theorem fk_X7_13 : FK RX7 13 7 2 := ⟨RX7, TX7, 31, tyX7, rfl, by decide, gtb_in 734 (by decide +kernel) (by decide +kernel), in_X7, rfl, tyX7_ok, nmX7⟩
theorem fk_X7_17 : FK RX7 17 7 6 := ⟨RX7, TX7, 31, tyX7, rfl, by decide, gtb_in 738 (by decide +kernel) (by decide +kernel), in_X7, rfl, tyX7_ok, nmX7⟩
theorem fk_X7_20 : FK RX7 20 7 7 := ⟨RX7, TX7, 31, tyX7, rfl, by decide, gtb_in 739 (by decide +kernel) (by decide +kernel), in_X7, rfl, tyX7_ok, nmX7⟩
theorem fk_X7_23 : FK RX7 23 7 8 := ⟨RX7, TX7, 31, tyX7, rfl, by decide, gtb_in 740 (by decide +kernel) (by decide +kernel), in_X7, rfl, tyX7_ok, nmX7⟩
theorem fk_X7_26 : FK RX7 26 7 9 := ⟨RX7, TX7, 31, tyX7, rfl, by decide, gtb_in 741 (by decide +kernel) (by decide +kernel), in_X7, rfl, tyX7_ok, nmX7⟩
theorem fk_X7_29 : FK RX7 29 7 10 := ⟨RX7, TX7, 31, tyX7, rfl, by decide, gtb_in 742 (by decide +kernel) (by decide +kernel), in_X7, rfl, tyX7_ok, nmX7⟩
theorem fk_X7_32 : FK RX7 32 7 11 := ⟨RX7, TX7, 31, tyX7, rfl, by decide, gtb_in 743 (by decide +kernel) (by decide +kernel), in_X7, rfl, tyX7_ok, nmX7⟩
theorem fk_X7_35 : FK RX7 35 7 12 := ⟨RX7, TX7, 31, tyX7, rfl, by decide, gtb_in 744 (by decide +kernel) (by decide +kernel), in_X7, rfl, tyX7_ok, nmX7⟩
theorem fk_X7_38 : FK RX7 38 7 13 := ⟨RX7, TX7, 31, tyX7, rfl, by decide, gtb_in 745 (by decide +kernel) (by decide +kernel), in_X7, rfl, tyX7_ok, nmX7⟩
theorem fk_X7_41 : FK RX7 41 7 14 := ⟨RX7, TX7, 31, tyX7, rfl, by decide, gtb_in 746 (by decide +kernel) (by decide +kernel), in_X7, rfl, tyX7_ok, nmX7⟩
theorem fk_X7_44 : FK RX7 44 7 20 := ⟨RX7, TX7, 31, tyX7, rfl, by decide, gtb_in 752 (by decide +kernel) (by decide +kernel), in_X7, rfl, tyX7_ok, nmX7⟩
theorem fk_X7_47 : FK RX7 47 7 21 := ⟨RX7, TX7, 31, tyX7, rfl, by decide, gtb_in 753 (by decide +kernel) (by decide +kernel), in_X7, rfl, tyX7_ok, nmX7⟩
theorem fk_X7_50 : FK RX7 50 7 22 := ⟨RX7, TX7, 31, tyX7, rfl, by decide, gtb_in 754 (by decide +kernel) (by decide +kernel), in_X7, rfl, tyX7_ok, nmX7⟩
theorem fk_X7_53 : FK RX7 53 7 23 := ⟨RX7, TX7, 31, tyX7, rfl, by decide, gtb_in 755 (by decide +kernel) (by decide +kernel), in_X7, rfl, tyX7_ok, nmX7⟩
theorem fk_X7_56 : FK RX7 56 7 24 := ⟨RX7, TX7, 31, tyX7, rfl, by decide, gtb_in 756 (by decide +kernel) (by decide +kernel), in_X7, rfl, tyX7_ok, nmX7⟩
theorem fk_X7_59 : FK RX7 59 7 25 := ⟨RX7, TX7, 31, tyX7, rfl, by decide, gtb_in 757 (by decide +kernel) (by decide +kernel), in_X7, rfl, tyX7_ok, nmX7⟩
theorem fk_X7_63 : FK RX7 63 7 26 := ⟨RX7, TX7, 31, tyX7, rfl, by decide, gtb_in 758 (by decide +kernel) (by decide +kernel), in_X7, rfl, tyX7_ok, nmX7⟩
theorem fk_X7_66 : FK RX7 66 7 27 := ⟨RX7, TX7, 31, tyX7, rfl, by decide, gtb_in 759 (by decide +kernel) (by decide +kernel), in_X7, rfl, tyX7_ok, nmX7⟩
theorem fk_X7_69 : FK RX7 69 7 28 := ⟨RX7, TX7, 31, tyX7, rfl, by decide, gtb_in 760 (by decide +kernel) (by decide +kernel), in_X7, rfl, tyX7_ok, nmX7⟩
theorem fk_X7_72 : FK RX7 72 7 29 := ⟨RX7, TX7, 31, tyX7, rfl, by decide, gtb_in 761 (by decide +kernel) (by decide +kernel), in_X7, rfl, tyX7_ok, nmX7⟩
theorem fk_X7_79 : FK RX7 79 7 0 := ⟨RX7, TX7, 31, tyX7, rfl, by decide, gtb_in 732 (by decide +kernel) (by decide +kernel), in_X7, rfl, tyX7_ok, nmX7⟩
theorem fk_X7_93 : FK RX7 93 7 4 := ⟨RX7, TX7, 31, tyX7, rfl, by decide, gtb_in 736 (by decide +kernel) (by decide +kernel), in_X7, rfl, tyX7_ok, nmX7⟩
theorem fk_X7_96 : FK RX7 96 7 5 := ⟨RX7, TX7, 31, tyX7, rfl, by decide, gtb_in 737 (by decide +kernel) (by decide +kernel), in_X7, rfl, tyX7_ok, nmX7⟩
theorem fk_X7_109 : FK RX7 109 7 3 := ⟨RX7, TX7, 31, tyX7, rfl, by decide, gtb_in 735 (by decide +kernel) (by decide +kernel), in_X7, rfl, tyX7_ok, nmX7⟩
theorem fk_X7_138 : FK RX7 138 7 15 := ⟨RX7, TX7, 31, tyX7, rfl, by decide, gtb_in 747 (by decide +kernel) (by decide +kernel), in_X7, rfl, tyX7_ok, nmX7⟩
theorem fk_X7_141 : FK RX7 141 7 17 := ⟨RX7, TX7, 31, tyX7, rfl, by decide, gtb_in 749 (by decide +kernel) (by decide +kernel), in_X7, rfl, tyX7_ok, nmX7⟩
theorem fk_X7_148 : FK RX7 148 7 16 := ⟨RX7, TX7, 31, tyX7, rfl, by decide, gtb_in 748 (by decide +kernel) (by decide +kernel), in_X7, rfl, tyX7_ok, nmX7⟩
theorem fk_X7_193 : FK RX7 193 7 19 := ⟨RX7, TX7, 31, tyX7, rfl, by decide, gtb_in 751 (by decide +kernel) (by decide +kernel), in_X7, rfl, tyX7_ok, nmX7⟩
theorem fk_X7_197 : FK RX7 197 7 18 := ⟨RX7, TX7, 31, tyX7, rfl, by decide, gtb_in 750 (by decide +kernel) (by decide +kernel), in_X7, rfl, tyX7_ok, nmX7⟩
theorem fk_X7_276 : FK RX7 276 7 30 := ⟨RX7, TX7, 31, tyX7, rfl, by decide, gtb_in 762 (by decide +kernel) (by decide +kernel), in_X7, rfl, tyX7_ok, nmX7⟩
theorem ft_0_8 : FT 0 8 .int := fun C T N h => by cases h; exact ⟨rfl, by decide +kernel⟩
theorem ft_0_9 : FT 0 9 .int := fun C T N h => by cases h; exact ⟨rfl, by decide +kernel⟩
theorem ft_0_10 : FT 0 10 .int := fun C T N h => by cases h; exact ⟨rfl, by decide +kernel⟩
theorem ft_0_11 : FT 0 11 .int := fun C T N h => by cases h; exact ⟨rfl, by decide +kernel⟩
theorem ft_0_12 : FT 0 12 .int := fun C T N h => by cases h; exact ⟨rfl, by decide +kernel⟩
theorem ft_1_2 : FT 1 2 .int := fun C T N h => by cases h; exact ⟨rfl, by decide +kernel⟩
theorem ft_1_3 : FT 1 3 .int := fun C T N h => by cases h; exact ⟨rfl, by decide +kernel⟩
theorem ft_2_5 : FT 2 5 .int := fun C T N h => by cases h; exact ⟨rfl, by decide +kernel⟩
theorem ft_4_1 : FT 4 1 .int := fun C T N h => by cases h; exact ⟨rfl, by decide +kernel⟩
theorem ft_4_2 : FT 4 2 .int := fun C T N h => by cases h; exact ⟨rfl, by decide +kernel⟩
theorem ft_5_4 : FT 5 4 .int := fun C T N h => by cases h; exact ⟨rfl, by decide +kernel⟩
theorem ft_5_5 : FT 5 5 .int := fun C T N h => by cases h; exact ⟨rfl, by decide +kernel⟩
theorem ft_5_6 : FT 5 6 .int := fun C T N h => by cases h; exact ⟨rfl, by decide +kernel⟩
theorem ft_6_6 : FT 6 6 .int := fun C T N h => by cases h; exact ⟨rfl, by decide +kernel⟩
theorem ft_6_7 : FT 6 7 .int := fun C T N h => by cases h; exact ⟨rfl, by decide +kernel⟩
theorem ft_6_8 : FT 6 8 .boolean := fun C T N h => by cases h; exact ⟨rfl, by decide +kernel⟩
theorem ft_6_9 : FT 6 9 .boolean := fun C T N h => by cases h; exact ⟨rfl, by decide +kernel⟩
theorem ft_7_0 : FT 7 0 .int := fun C T N h => by cases h; exact ⟨rfl, by decide +kernel⟩
theorem ft_7_2 : FT 7 2 .int := fun C T N h => by cases h; exact ⟨rfl, by decide +kernel⟩
theorem ft_7_3 : FT 7 3 .int := fun C T N h => by cases h; exact ⟨rfl, by decide +kernel⟩
theorem ft_7_4 : FT 7 4 .int := fun C T N h => by cases h; exact ⟨rfl, by decide +kernel⟩
theorem ft_7_5 : FT 7 5 .int := fun C T N h => by cases h; exact ⟨rfl, by decide +kernel⟩
theorem ft_7_15 : FT 7 15 .int := fun C T N h => by cases h; exact ⟨rfl, by decide +kernel⟩
theorem ft_7_16 : FT 7 16 .int := fun C T N h => by cases h; exact ⟨rfl, by decide +kernel⟩
theorem ft_7_17 : FT 7 17 .int := fun C T N h => by cases h; exact ⟨rfl, by decide +kernel⟩
theorem ft_7_18 : FT 7 18 .int := fun C T N h => by cases h; exact ⟨rfl, by decide +kernel⟩
theorem ft_7_19 : FT 7 19 .boolean := fun C T N h => by cases h; exact ⟨rfl, by decide +kernel⟩
theorem ft_7_30 : FT 7 30 .int := fun C T N h => by cases h; exact ⟨rfl, by decide +kernel⟩
theorem cn_X6_171 : Cond.constant RX6 171 (-2147483648) ∈ gtb := gtb_in 674 (by decide +kernel) (by decide +kernel)
theorem cn_X7_285 : Cond.constant RX7 285 (-2147483648) ∈ gtb := gtb_in 1112 (by decide +kernel) (by decide +kernel)
theorem cl_X6_208 : Cond.constantLong RX6 208 (17) ∈ gtb := gtb_in 698 (by decide +kernel) (by decide +kernel)
theorem cl_X6_210 : Cond.constantLong RX6 210 (31) ∈ gtb := gtb_in 699 (by decide +kernel) (by decide +kernel)
theorem cl_X7_295 : Cond.constantLong RX7 295 (31) ∈ gtb := gtb_in 1142 (by decide +kernel) (by decide +kernel)
theorem cl_X7_303 : Cond.constantLong RX7 303 (17) ∈ gtb := gtb_in 1141 (by decide +kernel) (by decide +kernel)
theorem lk_X0_52 : Cond.methodLink RX0 52 yX0_goesOn ∈ gtb := gtb_in 344 (by decide +kernel) (by decide +kernel)
theorem lk_X0_56 : Cond.methodLink RX0 56 yX0_measure ∈ gtb := gtb_in 375 (by decide +kernel) (by decide +kernel)
theorem lk_X0_59 : Cond.methodLink RX0 59 yX0_hasPart ∈ gtb := gtb_in 348 (by decide +kernel) (by decide +kernel)
theorem lk_X0_63 : Cond.methodLink RX0 63 yX0_takesFigure ∈ gtb := gtb_in 352 (by decide +kernel) (by decide +kernel)
theorem lk_X0_66 : Cond.methodLink RX0 66 yX0_kindOf ∈ gtb := gtb_in 356 (by decide +kernel) (by decide +kernel)
theorem lk_X0_70 : Cond.methodLink RX0 70 yX0_begin ∈ gtb := gtb_in 359 (by decide +kernel) (by decide +kernel)
theorem lk_X0_74 : Cond.methodLink RX0 74 yX0_hangBelowOpen ∈ gtb := gtb_in 363 (by decide +kernel) (by decide +kernel)
theorem lk_X0_78 : Cond.methodLink RX0 78 yX0_closeFull ∈ gtb := gtb_in 367 (by decide +kernel) (by decide +kernel)
theorem lk_X0_81 : Cond.methodLink RX0 81 yX0_hasTwo ∈ gtb := gtb_in 371 (by decide +kernel) (by decide +kernel)
theorem lk_X0_84 : Cond.methodLink RX0 84 yX0_sizeBelow ∈ gtb := gtb_in 379 (by decide +kernel) (by decide +kernel)
theorem lk_X1_36 : Cond.methodLink RX1 36 Lib.Math.min.name ∈ gtb := gtb_in 441 (by decide +kernel) (by decide +kernel)
theorem lk_X1_48 : Cond.methodLink RX1 48 yX3_setWord ∈ gtb := gtb_in 444 (by decide +kernel) (by decide +kernel)
theorem lk_X1_52 : Cond.methodLink RX1 52 yX1_tryLast ∈ gtb := gtb_in 445 (by decide +kernel) (by decide +kernel)
theorem lk_X1_58 : Cond.methodLink RX1 58 yX1_tryEach ∈ gtb := gtb_in 459 (by decide +kernel) (by decide +kernel)
theorem lk_X1_65 : Cond.methodLink RX1 65 yX1_tryPairs ∈ gtb := gtb_in 467 (by decide +kernel) (by decide +kernel)
theorem lk_X1_69 : Cond.methodLink RX1 69 yX1_tryAlone ∈ gtb := gtb_in 472 (by decide +kernel) (by decide +kernel)
theorem lk_X1_72 : Cond.methodLink RX1 72 yX1_sizeOf ∈ gtb := gtb_in 463 (by decide +kernel) (by decide +kernel)
theorem lk_X1_76 : Cond.methodLink RX1 76 yX1_trialPlace ∈ gtb := gtb_in 449 (by decide +kernel) (by decide +kernel)
theorem lk_X1_79 : Cond.methodLink RX1 79 yX3_setLike ∈ gtb := gtb_in 458 (by decide +kernel) (by decide +kernel)
theorem lk_X1_83 : Cond.methodLink RX1 83 yX3_setMade ∈ gtb := gtb_in 471 (by decide +kernel) (by decide +kernel)
theorem lk_X1_87 : Cond.methodLink RX1 87 yX3_tell ∈ gtb := gtb_in 476 (by decide +kernel) (by decide +kernel)
theorem lk_X1_90 : Cond.methodLink RX1 90 yX3_has ∈ gtb := gtb_in 453 (by decide +kernel) (by decide +kernel)
theorem lk_X1_97 : Cond.methodLink RX1 97 yX3_noneGreater ∈ gtb := gtb_in 454 (by decide +kernel) (by decide +kernel)
theorem lk_X1_101 : Cond.methodLink RX1 101 yX3_fewerLines ∈ gtb := gtb_in 481 (by decide +kernel) (by decide +kernel)
theorem lk_X1_104 : Cond.methodLink RX1 104 yX3_lessMost ∈ gtb := gtb_in 489 (by decide +kernel) (by decide +kernel)
theorem lk_X2_35 : Cond.methodLink RX2 35 yX2_putAt ∈ gtb := gtb_in 508 (by decide +kernel) (by decide +kernel)
theorem lk_X2_39 : Cond.methodLink RX2 39 yX3_tell ∈ gtb := gtb_in 512 (by decide +kernel) (by decide +kernel)
theorem lk_X2_45 : Cond.methodLink RX2 45 yX0_hasPart ∈ gtb := gtb_in 513 (by decide +kernel) (by decide +kernel)
theorem lk_X2_49 : Cond.methodLink RX2 49 yX2_placeBelow ∈ gtb := gtb_in 514 (by decide +kernel) (by decide +kernel)
theorem lk_X2_65 : Cond.methodLink RX2 65 yX2_isWordOn ∈ gtb := gtb_in 580 (by decide +kernel) (by decide +kernel)
theorem lk_X2_69 : Cond.methodLink RX2 69 Lib.Math.max.name ∈ gtb := gtb_in 584 (by decide +kernel) (by decide +kernel)
theorem lk_X2_74 : Cond.methodLink RX2 74 yX2_columnsOf ∈ gtb := gtb_in 589 (by decide +kernel) (by decide +kernel)
theorem lk_X3_9 : Cond.methodLink RX3 9 Lib.Math.max.name ∈ gtb := gtb_in 176 (by decide +kernel) (by decide +kernel)
theorem lk_X3_30 : Cond.methodLink RX3 30 yX3_set ∈ gtb := gtb_in 400 (by decide +kernel) (by decide +kernel)
theorem lk_X3_34 : Cond.methodLink RX3 34 yX3_has ∈ gtb := gtb_in 408 (by decide +kernel) (by decide +kernel)
theorem lk_X5_44 : Cond.methodLink RX5 44 yX5_shapeParts ∈ gtb := gtb_in 387 (by decide +kernel) (by decide +kernel)
theorem lk_X5_60 : Cond.methodLink RX5 60 yX3_set ∈ gtb := gtb_in 420 (by decide +kernel) (by decide +kernel)
theorem lk_X5_64 : Cond.methodLink RX5 64 yX5_findLines ∈ gtb := gtb_in 425 (by decide +kernel) (by decide +kernel)
theorem lk_X5_67 : Cond.methodLink RX5 67 yX5_findShrinks ∈ gtb := gtb_in 429 (by decide +kernel) (by decide +kernel)
theorem lk_X5_70 : Cond.methodLink RX5 70 yX5_shapeOne ∈ gtb := gtb_in 391 (by decide +kernel) (by decide +kernel)
theorem lk_X5_74 : Cond.methodLink RX5 74 yX0_hasPart ∈ gtb := gtb_in 395 (by decide +kernel) (by decide +kernel)
theorem lk_X5_90 : Cond.methodLink RX5 90 yX3_setWord ∈ gtb := gtb_in 396 (by decide +kernel) (by decide +kernel)
theorem lk_X5_94 : Cond.methodLink RX5 94 yX3_setLike ∈ gtb := gtb_in 404 (by decide +kernel) (by decide +kernel)
theorem lk_X5_98 : Cond.methodLink RX5 98 yX5_stands ∈ gtb := gtb_in 412 (by decide +kernel) (by decide +kernel)
theorem lk_X5_101 : Cond.methodLink RX5 101 yX3_tell ∈ gtb := gtb_in 416 (by decide +kernel) (by decide +kernel)
theorem lk_X5_105 : Cond.methodLink RX5 105 yX3_setMade ∈ gtb := gtb_in 421 (by decide +kernel) (by decide +kernel)
theorem lk_X5_111 : Cond.methodLink RX5 111 yX5_isAny ∈ gtb := gtb_in 606 (by decide +kernel) (by decide +kernel)
theorem lk_X5_115 : Cond.methodLink RX5 115 yX5_fits ∈ gtb := gtb_in 610 (by decide +kernel) (by decide +kernel)
theorem lk_X5_119 : Cond.methodLink RX5 119 yX3_fewerLines ∈ gtb := gtb_in 639 (by decide +kernel) (by decide +kernel)
theorem lk_X5_122 : Cond.methodLink RX5 122 yX3_lessMost ∈ gtb := gtb_in 634 (by decide +kernel) (by decide +kernel)
theorem lk_X6_57 : Cond.methodLink RX6 57 yX6_isByte ∈ gtb := gtb_in 329 (by decide +kernel) (by decide +kernel)
theorem lk_X6_61 : Cond.methodLink RX6 61 yX0_append ∈ gtb := gtb_in 332 (by decide +kernel) (by decide +kernel)
theorem lk_X6_64 : Cond.methodLink RX6 64 yX6_readDoc ∈ gtb := gtb_in 336 (by decide +kernel) (by decide +kernel)
theorem lk_X6_67 : Cond.methodLink RX6 67 yX6_chooseBest ∈ gtb := gtb_in 433 (by decide +kernel) (by decide +kernel)
theorem lk_X6_76 : Cond.methodLink RX6 76 yX6_sheetOf ∈ gtb := gtb_in 538 (by decide +kernel) (by decide +kernel)
theorem lk_X6_80 : Cond.methodLink RX6 80 yX4_isLost ∈ gtb := gtb_in 542 (by decide +kernel) (by decide +kernel)
theorem lk_X6_84 : Cond.methodLink RX6 84 yX6_found ∈ gtb := gtb_in 546 (by decide +kernel) (by decide +kernel)
theorem lk_X6_91 : Cond.methodLink RX6 91 yX4_itemAt ∈ gtb := gtb_in 550 (by decide +kernel) (by decide +kernel)
theorem lk_X6_94 : Cond.methodLink RX6 94 yX0_hasPart ∈ gtb := gtb_in 558 (by decide +kernel) (by decide +kernel)
theorem lk_X6_103 : Cond.methodLink RX6 103 yX1_sizeOf ∈ gtb := gtb_in 559 (by decide +kernel) (by decide +kernel)
theorem lk_X6_112 : Cond.methodLink RX6 112 yX3_tell ∈ gtb := gtb_in 501 (by decide +kernel) (by decide +kernel)
theorem lk_X6_129 : Cond.methodLink RX6 129 yX2_columnsOf ∈ gtb := gtb_in 576 (by decide +kernel) (by decide +kernel)
theorem lk_X6_132 : Cond.methodLink RX6 132 yX2_byteAt ∈ gtb := gtb_in 585 (by decide +kernel) (by decide +kernel)
theorem lk_X6_135 : Cond.methodLink RX6 135 yX5_tell ∈ gtb := gtb_in 594 (by decide +kernel) (by decide +kernel)
theorem lk_X6_139 : Cond.methodLink RX6 139 yX5_hasty ∈ gtb := gtb_in 602 (by decide +kernel) (by decide +kernel)
theorem lk_X6_148 : Cond.methodLink RX6 148 yX5_shrinkAt ∈ gtb := gtb_in 622 (by decide +kernel) (by decide +kernel)
theorem lk_X6_151 : Cond.methodLink RX6 151 yX5_linesOfLeastMost ∈ gtb := gtb_in 630 (by decide +kernel) (by decide +kernel)
theorem lk_X6_154 : Cond.methodLink RX6 154 yX5_fewestLines ∈ gtb := gtb_in 635 (by decide +kernel) (by decide +kernel)
theorem lk_X6_157 : Cond.methodLink RX6 157 yX6_isForm ∈ gtb := gtb_in 644 (by decide +kernel) (by decide +kernel)
theorem lk_X6_160 : Cond.methodLink RX6 160 yX4_renew ∈ gtb := gtb_in 647 (by decide +kernel) (by decide +kernel)
theorem lk_X6_164 : Cond.methodLink RX6 164 yX6_wrongItem ∈ gtb := gtb_in 659 (by decide +kernel) (by decide +kernel)
theorem lk_X6_168 : Cond.methodLink RX6 168 yX4_store ∈ gtb := gtb_in 666 (by decide +kernel) (by decide +kernel)
theorem lk_X6_175 : Cond.methodLink RX6 175 yX4_hasItems ∈ gtb := gtb_in 662 (by decide +kernel) (by decide +kernel)
theorem lk_X6_182 : Cond.methodLink RX6 182 arraycopyName ∈ gtb := gtb_in 679 (by decide +kernel) (by decide +kernel)
theorem lk_X6_188 : Cond.methodLink RX6 188 Lib.Math.min.name ∈ gtb := gtb_in 686 (by decide +kernel) (by decide +kernel)
theorem lk_X6_193 : Cond.methodLink RX6 193 Lib.Math.max.name ∈ gtb := gtb_in 687 (by decide +kernel) (by decide +kernel)
theorem lk_X6_199 : Cond.methodLink RX6 199 yX6_tried ∈ gtb := gtb_in 692 (by decide +kernel) (by decide +kernel)
theorem lk_X6_202 : Cond.methodLink RX6 202 yX6_best ∈ gtb := gtb_in 693 (by decide +kernel) (by decide +kernel)
theorem lk_X6_212 : Cond.methodLink RX6 212 yX6_count ∈ gtb := gtb_in 700 (by decide +kernel) (by decide +kernel)
theorem lk_X6_215 : Cond.methodLink RX6 215 yX6_fault ∈ gtb := gtb_in 701 (by decide +kernel) (by decide +kernel)
theorem lk_X6_218 : Cond.methodLink RX6 218 yX6_digestParts ∈ gtb := gtb_in 702 (by decide +kernel) (by decide +kernel)
theorem lk_X6_222 : Cond.methodLink RX6 222 yX6_digestBest ∈ gtb := gtb_in 712 (by decide +kernel) (by decide +kernel)
theorem lk_X6_225 : Cond.methodLink RX6 225 yX6_digestWays ∈ gtb := gtb_in 717 (by decide +kernel) (by decide +kernel)
theorem lk_X6_228 : Cond.methodLink RX6 228 yX6_part ∈ gtb := gtb_in 706 (by decide +kernel) (by decide +kernel)
theorem lk_X6_231 : Cond.methodLink RX6 231 yX6_digestShape ∈ gtb := gtb_in 707 (by decide +kernel) (by decide +kernel)
theorem lk_X6_235 : Cond.methodLink RX6 235 yX6_frontier ∈ gtb := gtb_in 711 (by decide +kernel) (by decide +kernel)
theorem lk_X6_239 : Cond.methodLink RX6 239 yX6_line ∈ gtb := gtb_in 716 (by decide +kernel) (by decide +kernel)
theorem lk_X6_242 : Cond.methodLink RX6 242 yX6_way ∈ gtb := gtb_in 721 (by decide +kernel) (by decide +kernel)
theorem lk_X6_245 : Cond.methodLink RX6 245 yX6_haste ∈ gtb := gtb_in 722 (by decide +kernel) (by decide +kernel)
theorem lk_X6_248 : Cond.methodLink RX6 248 yX6_enough ∈ gtb := gtb_in 723 (by decide +kernel) (by decide +kernel)
theorem lk_X6_251 : Cond.methodLink RX6 251 yX6_shrinks ∈ gtb := gtb_in 724 (by decide +kernel) (by decide +kernel)
theorem lk_X6_254 : Cond.methodLink RX6 254 yX6_spare ∈ gtb := gtb_in 725 (by decide +kernel) (by decide +kernel)
theorem lk_X6_257 : Cond.methodLink RX6 257 yX0_parse ∈ gtb := gtb_in 340 (by decide +kernel) (by decide +kernel)
theorem lk_X6_260 : Cond.methodLink RX6 260 yX5_make ∈ gtb := gtb_in 383 (by decide +kernel) (by decide +kernel)
theorem lk_X6_264 : Cond.methodLink RX6 264 yX1_make ∈ gtb := gtb_in 437 (by decide +kernel) (by decide +kernel)
theorem lk_X6_267 : Cond.methodLink RX6 267 yX1_fewestLines ∈ gtb := gtb_in 477 (by decide +kernel) (by decide +kernel)
theorem lk_X6_269 : Cond.methodLink RX6 269 yX1_leastMost ∈ gtb := gtb_in 485 (by decide +kernel) (by decide +kernel)
theorem lk_X6_272 : Cond.methodLink RX6 272 yX2_clear ∈ gtb := gtb_in 493 (by decide +kernel) (by decide +kernel)
theorem lk_X6_275 : Cond.methodLink RX6 275 yX6_keepBest ∈ gtb := gtb_in 497 (by decide +kernel) (by decide +kernel)
theorem lk_X6_278 : Cond.methodLink RX6 278 yX3_set ∈ gtb := gtb_in 502 (by decide +kernel) (by decide +kernel)
theorem lk_X6_282 : Cond.methodLink RX6 282 yX5_shapeParts ∈ gtb := gtb_in 503 (by decide +kernel) (by decide +kernel)
theorem lk_X6_287 : Cond.methodLink RX6 287 yX2_place ∈ gtb := gtb_in 504 (by decide +kernel) (by decide +kernel)
theorem lk_X7_75 : Cond.methodLink RX7 75 yX7_in ∈ gtb := gtb_in 830 (by decide +kernel) (by decide +kernel)
theorem lk_X7_82 : Cond.methodLink RX7 82 yX7_isSheet ∈ gtb := gtb_in 849 (by decide +kernel) (by decide +kernel)
theorem lk_X7_86 : Cond.methodLink RX7 86 yX7_meets ∈ gtb := gtb_in 852 (by decide +kernel) (by decide +kernel)
theorem lk_X7_90 : Cond.methodLink RX7 90 yX7_type ∈ gtb := gtb_in 856 (by decide +kernel) (by decide +kernel)
theorem lk_X7_99 : Cond.methodLink RX7 99 yX7_kindOf ∈ gtb := gtb_in 873 (by decide +kernel) (by decide +kernel)
theorem lk_X7_102 : Cond.methodLink RX7 102 yX7_isTwofold ∈ gtb := gtb_in 876 (by decide +kernel) (by decide +kernel)
theorem lk_X7_105 : Cond.methodLink RX7 105 yX7_readsText ∈ gtb := gtb_in 869 (by decide +kernel) (by decide +kernel)
theorem lk_X7_112 : Cond.methodLink RX7 112 yX7_reads ∈ gtb := gtb_in 865 (by decide +kernel) (by decide +kernel)
theorem lk_X7_115 : Cond.methodLink RX7 115 yX7_faultOf ∈ gtb := gtb_in 861 (by decide +kernel) (by decide +kernel)
theorem lk_X7_118 : Cond.methodLink RX7 118 yX7_wayOf ∈ gtb := gtb_in 933 (by decide +kernel) (by decide +kernel)
theorem lk_X7_121 : Cond.methodLink RX7 121 yX7_lines ∈ gtb := gtb_in 913 (by decide +kernel) (by decide +kernel)
theorem lk_X7_124 : Cond.methodLink RX7 124 yX7_last ∈ gtb := gtb_in 919 (by decide +kernel) (by decide +kernel)
theorem lk_X7_127 : Cond.methodLink RX7 127 yX7_most ∈ gtb := gtb_in 910 (by decide +kernel) (by decide +kernel)
theorem lk_X7_130 : Cond.methodLink RX7 130 yX7_max ∈ gtb := gtb_in 936 (by decide +kernel) (by decide +kernel)
theorem lk_X7_134 : Cond.methodLink RX7 134 yX7_shape ∈ gtb := gtb_in 903 (by decide +kernel) (by decide +kernel)
theorem lk_X7_144 : Cond.methodLink RX7 144 yX7_isNoGreater ∈ gtb := gtb_in 916 (by decide +kernel) (by decide +kernel)
theorem lk_X7_151 : Cond.methodLink RX7 151 yX7_both ∈ gtb := gtb_in 930 (by decide +kernel) (by decide +kernel)
theorem lk_X7_155 : Cond.methodLink RX7 155 yX7_tries ∈ gtb := gtb_in 906 (by decide +kernel) (by decide +kernel)
theorem lk_X7_159 : Cond.methodLink RX7 159 yX7_triesChoice ∈ gtb := gtb_in 922 (by decide +kernel) (by decide +kernel)
theorem lk_X7_163 : Cond.methodLink RX7 163 yX7_triesBoth ∈ gtb := gtb_in 926 (by decide +kernel) (by decide +kernel)
theorem lk_X7_166 : Cond.methodLink RX7 166 yX7_pushed ∈ gtb := gtb_in 939 (by decide +kernel) (by decide +kernel)
theorem lk_X7_169 : Cond.methodLink RX7 169 yX7_findsFronts ∈ gtb := gtb_in 899 (by decide +kernel) (by decide +kernel)
theorem lk_X7_172 : Cond.methodLink RX7 172 yX7_frontsTold ∈ gtb := gtb_in 895 (by decide +kernel) (by decide +kernel)
theorem lk_X7_175 : Cond.methodLink RX7 175 yX7_manyOf ∈ gtb := gtb_in 891 (by decide +kernel) (by decide +kernel)
theorem lk_X7_178 : Cond.methodLink RX7 178 yX7_isPart ∈ gtb := gtb_in 883 (by decide +kernel) (by decide +kernel)
theorem lk_X7_181 : Cond.methodLink RX7 181 yX7_partOf ∈ gtb := gtb_in 887 (by decide +kernel) (by decide +kernel)
theorem lk_X7_184 : Cond.methodLink RX7 184 yX7_tellOf ∈ gtb := gtb_in 950 (by decide +kernel) (by decide +kernel)
theorem lk_X7_187 : Cond.methodLink RX7 187 yX7_frontierOf ∈ gtb := gtb_in 946 (by decide +kernel) (by decide +kernel)
theorem lk_X7_190 : Cond.methodLink RX7 190 yX7_triedOf ∈ gtb := gtb_in 957 (by decide +kernel) (by decide +kernel)
theorem lk_X7_200 : Cond.methodLink RX7 200 yX7_isAhead ∈ gtb := gtb_in 973 (by decide +kernel) (by decide +kernel)
theorem lk_X7_203 : Cond.methodLink RX7 203 yX7_findsBest ∈ gtb := gtb_in 969 (by decide +kernel) (by decide +kernel)
theorem lk_X7_206 : Cond.methodLink RX7 206 yX7_bestOf ∈ gtb := gtb_in 965 (by decide +kernel) (by decide +kernel)
theorem lk_X7_209 : Cond.methodLink RX7 209 yX7_isIn ∈ gtb := gtb_in 993 (by decide +kernel) (by decide +kernel)
theorem lk_X7_212 : Cond.methodLink RX7 212 yX7_shapeBy ∈ gtb := gtb_in 989 (by decide +kernel) (by decide +kernel)
theorem lk_X7_215 : Cond.methodLink RX7 215 yX7_shapeOf ∈ gtb := gtb_in 985 (by decide +kernel) (by decide +kernel)
theorem lk_X7_218 : Cond.methodLink RX7 218 yX7_wayFor ∈ gtb := gtb_in 981 (by decide +kernel) (by decide +kernel)
theorem lk_X7_221 : Cond.methodLink RX7 221 yX7_setsBelow ∈ gtb := gtb_in 1008 (by decide +kernel) (by decide +kernel)
theorem lk_X7_224 : Cond.methodLink RX7 224 yX7_puts ∈ gtb := gtb_in 1012 (by decide +kernel) (by decide +kernel)
theorem lk_X7_228 : Cond.methodLink RX7 228 yX7_sets ∈ gtb := gtb_in 1004 (by decide +kernel) (by decide +kernel)
theorem lk_X7_231 : Cond.methodLink RX7 231 yX7_columnsIn ∈ gtb := gtb_in 1016 (by decide +kernel) (by decide +kernel)
theorem lk_X7_234 : Cond.methodLink RX7 234 yX7_byteIn ∈ gtb := gtb_in 1020 (by decide +kernel) (by decide +kernel)
theorem lk_X7_237 : Cond.methodLink RX7 237 yX7_lineOf ∈ gtb := gtb_in 1000 (by decide +kernel) (by decide +kernel)
theorem lk_X7_240 : Cond.methodLink RX7 240 yX7_isAllowed ∈ gtb := gtb_in 1040 (by decide +kernel) (by decide +kernel)
theorem lk_X7_243 : Cond.methodLink RX7 243 yX7_findsWays ∈ gtb := gtb_in 1032 (by decide +kernel) (by decide +kernel)
theorem lk_X7_246 : Cond.methodLink RX7 246 yX7_isAny ∈ gtb := gtb_in 1036 (by decide +kernel) (by decide +kernel)
theorem lk_X7_249 : Cond.methodLink RX7 249 yX7_hasteOf ∈ gtb := gtb_in 1028 (by decide +kernel) (by decide +kernel)
theorem lk_X7_252 : Cond.methodLink RX7 252 yX7_leastMost ∈ gtb := gtb_in 1052 (by decide +kernel) (by decide +kernel)
theorem lk_X7_255 : Cond.methodLink RX7 255 yX7_enoughOf ∈ gtb := gtb_in 1048 (by decide +kernel) (by decide +kernel)
theorem lk_X7_258 : Cond.methodLink RX7 258 yX7_fewest ∈ gtb := gtb_in 1064 (by decide +kernel) (by decide +kernel)
theorem lk_X7_261 : Cond.methodLink RX7 261 yX7_shrinksOf ∈ gtb := gtb_in 1060 (by decide +kernel) (by decide +kernel)
theorem lk_X7_264 : Cond.methodLink RX7 264 yX7_leastWithout ∈ gtb := gtb_in 1080 (by decide +kernel) (by decide +kernel)
theorem lk_X7_267 : Cond.methodLink RX7 267 yX7_linesWithout ∈ gtb := gtb_in 1076 (by decide +kernel) (by decide +kernel)
theorem lk_X7_270 : Cond.methodLink RX7 270 yX7_isOverBy ∈ gtb := gtb_in 1084 (by decide +kernel) (by decide +kernel)
theorem lk_X7_273 : Cond.methodLink RX7 273 yX7_spareOf ∈ gtb := gtb_in 1072 (by decide +kernel) (by decide +kernel)
theorem lk_X7_279 : Cond.methodLink RX7 279 yX7_lacks ∈ gtb := gtb_in 1100 (by decide +kernel) (by decide +kernel)
theorem lk_X7_282 : Cond.methodLink RX7 282 yX7_keep ∈ gtb := gtb_in 1104 (by decide +kernel) (by decide +kernel)
theorem lk_X7_286 : Cond.methodLink RX7 286 yX7_partsOf ∈ gtb := gtb_in 1125 (by decide +kernel) (by decide +kernel)
theorem lk_X7_289 : Cond.methodLink RX7 289 yX7_choicesOf ∈ gtb := gtb_in 1129 (by decide +kernel) (by decide +kernel)
theorem lk_X7_292 : Cond.methodLink RX7 292 yX7_wholeOf ∈ gtb := gtb_in 1133 (by decide +kernel) (by decide +kernel)
theorem lk_X7_297 : Cond.methodLink RX7 297 yX7_part ∈ gtb := gtb_in 1148 (by decide +kernel) (by decide +kernel)
theorem lk_X7_300 : Cond.methodLink RX7 300 yX7_frontier ∈ gtb := gtb_in 1149 (by decide +kernel) (by decide +kernel)
theorem lk_X7_305 : Cond.methodLink RX7 305 yX7_count ∈ gtb := gtb_in 1143 (by decide +kernel) (by decide +kernel)
theorem lk_X7_308 : Cond.methodLink RX7 308 yX7_partDigest ∈ gtb := gtb_in 1144 (by decide +kernel) (by decide +kernel)
theorem jm_max_s : Cond.static Lib.Math.max.name ∈ gtb := gtb_in 177 (by decide +kernel) (by decide +kernel)
theorem jm_max_c : Cond.code Lib.Math.max.name Lib.Math.max.code 2 (some .int) ∈ gtb := gtb_in 178 (by decide +kernel) (by decide +kernel)
theorem jm_min_s : Cond.static Lib.Math.min.name ∈ gtb := gtb_in 442 (by decide +kernel) (by decide +kernel)
theorem jm_min_c : Cond.code Lib.Math.min.name Lib.Math.min.code 2 (some .int) ∈ gtb := gtb_in 443 (by decide +kernel) (by decide +kernel)
theorem jm_i : Cond.initialized "java/lang/Math" ∈ gtb := gtb_in 80 (by decide +kernel) (by decide +kernel)
theorem js_n : Cond.native arraycopyName ∈ gtb := gtb_in 681 (by decide +kernel) (by decide +kernel)
theorem js_s : Cond.static arraycopyName ∈ gtb := gtb_in 680 (by decide +kernel) (by decide +kernel)
theorem js_i : Cond.initialized "java/lang/System" ∈ gtb := gtb_in 85 (by decide +kernel) (by decide +kernel)
def FU : Nat := 200
def M_X6_isByte : MI := (yX6_isByte, cX6_isByte, 1, some .boolean, { frames := 0, cells := 0, slots := 0, locals := 0 })
theorem mk_X6_isByte : MK M_X6_isByte 1 := ⟨gtb_in 331 (by decide +kernel) (by decide +kernel), gtb_in 76 (by decide +kernel) (by decide +kernel), ⟨by decide, by decide, by decide +kernel⟩, rfl, rfl⟩
theorem ms_X6_isByte : Cond.static M_X6_isByte.1 ∈ gtb := gtb_in 330 (by decide +kernel) (by decide +kernel)
def M_X0_append : MI := (yX0_append, cX0_append, 2, some .boolean, { frames := 0, cells := 0, slots := 0, locals := 0 })
theorem mk_X0_append : MK M_X0_append 1 := ⟨gtb_in 335 (by decide +kernel) (by decide +kernel), gtb_in 77 (by decide +kernel) (by decide +kernel), ⟨by decide, by decide, by decide +kernel⟩, rfl, rfl⟩
theorem mv_X0_append : MV M_X0_append := ⟨gtb_in 333 (by decide +kernel) (by decide +kernel), gtb_in 334 (by decide +kernel) (by decide +kernel)⟩
def M_X0_hasPart : MI := (yX0_hasPart, cX0_hasPart, 2, some .boolean, { frames := 0, cells := 0, slots := 0, locals := 0 })
theorem mk_X0_hasPart : MK M_X0_hasPart 1 := ⟨gtb_in 351 (by decide +kernel) (by decide +kernel), gtb_in 77 (by decide +kernel) (by decide +kernel), ⟨by decide, by decide, by decide +kernel⟩, rfl, rfl⟩
theorem mv_X0_hasPart : MV M_X0_hasPart := ⟨gtb_in 349 (by decide +kernel) (by decide +kernel), gtb_in 350 (by decide +kernel) (by decide +kernel)⟩
def M_X0_takesFigure : MI := (yX0_takesFigure, cX0_takesFigure, 2, some .boolean, { frames := 0, cells := 0, slots := 0, locals := 0 })
theorem mk_X0_takesFigure : MK M_X0_takesFigure 1 := ⟨gtb_in 355 (by decide +kernel) (by decide +kernel), gtb_in 77 (by decide +kernel) (by decide +kernel), ⟨by decide, by decide, by decide +kernel⟩, rfl, rfl⟩
theorem mv_X0_takesFigure : MV M_X0_takesFigure := ⟨gtb_in 354 (by decide +kernel) (by decide +kernel), gtb_in 2 (by decide +kernel) (by decide +kernel)⟩
def M_X0_kindOf : MI := (yX0_kindOf, cX0_kindOf, 1, some .int, { frames := 0, cells := 0, slots := 0, locals := 0 })
theorem mk_X0_kindOf : MK M_X0_kindOf 1 := ⟨gtb_in 358 (by decide +kernel) (by decide +kernel), gtb_in 77 (by decide +kernel) (by decide +kernel), ⟨by decide, by decide, by decide +kernel⟩, rfl, rfl⟩
theorem ms_X0_kindOf : Cond.static M_X0_kindOf.1 ∈ gtb := gtb_in 357 (by decide +kernel) (by decide +kernel)
def M_X0_hangBelowOpen : MI := (yX0_hangBelowOpen, cX0_hangBelowOpen, 2, none, { frames := 1, cells := 0, slots := 0, locals := 21 })
theorem mk_X0_hangBelowOpen : MK M_X0_hangBelowOpen 1 := ⟨gtb_in 366 (by decide +kernel) (by decide +kernel), gtb_in 77 (by decide +kernel) (by decide +kernel), ⟨by decide, by decide, by decide +kernel⟩, rfl, rfl⟩
theorem mv_X0_hangBelowOpen : MV M_X0_hangBelowOpen := ⟨gtb_in 365 (by decide +kernel) (by decide +kernel), gtb_in 4 (by decide +kernel) (by decide +kernel)⟩
def M_X0_hasTwo : MI := (yX0_hasTwo, cX0_hasTwo, 2, some .boolean, { frames := 0, cells := 0, slots := 0, locals := 0 })
theorem mk_X0_hasTwo : MK M_X0_hasTwo 1 := ⟨gtb_in 374 (by decide +kernel) (by decide +kernel), gtb_in 77 (by decide +kernel) (by decide +kernel), ⟨by decide, by decide, by decide +kernel⟩, rfl, rfl⟩
theorem mv_X0_hasTwo : MV M_X0_hasTwo := ⟨gtb_in 373 (by decide +kernel) (by decide +kernel), gtb_in 6 (by decide +kernel) (by decide +kernel)⟩
def M_X0_closeFull : MI := (yX0_closeFull, cX0_closeFull, 3, none, { frames := 1, cells := 0, slots := 0, locals := 21 })
theorem mk_X0_closeFull : MK M_X0_closeFull 0 := ⟨gtb_in 370 (by decide +kernel) (by decide +kernel), gtb_in 77 (by decide +kernel) (by decide +kernel), ⟨by decide, by decide, by decide +kernel⟩, rfl, rfl⟩
theorem mv_X0_closeFull : MV M_X0_closeFull := ⟨gtb_in 369 (by decide +kernel) (by decide +kernel), gtb_in 5 (by decide +kernel) (by decide +kernel)⟩
def M_X0_begin : MI := (yX0_begin, cX0_begin, 5, none, { frames := 2, cells := 0, slots := 0, locals := 43 })
theorem mk_X0_begin : MK M_X0_begin 3 := ⟨gtb_in 362 (by decide +kernel) (by decide +kernel), gtb_in 77 (by decide +kernel) (by decide +kernel), ⟨by decide, by decide, by decide +kernel⟩, rfl, rfl⟩
theorem mv_X0_begin : MV M_X0_begin := ⟨gtb_in 361 (by decide +kernel) (by decide +kernel), gtb_in 3 (by decide +kernel) (by decide +kernel)⟩
def M_X0_goesOn : MI := (yX0_goesOn, cX0_goesOn, 5, some .boolean, { frames := 3, cells := 0, slots := 0, locals := 67 })
theorem mk_X0_goesOn : MK M_X0_goesOn 2 := ⟨gtb_in 347 (by decide +kernel) (by decide +kernel), gtb_in 77 (by decide +kernel) (by decide +kernel), ⟨by decide, by decide, by decide +kernel⟩, rfl, rfl⟩
theorem mv_X0_goesOn : MV M_X0_goesOn := ⟨gtb_in 346 (by decide +kernel) (by decide +kernel), gtb_in 1 (by decide +kernel) (by decide +kernel)⟩
def M_X0_sizeBelow : MI := (yX0_sizeBelow, cX0_sizeBelow, 2, some .int, { frames := 1, cells := 0, slots := 0, locals := 21 })
theorem mk_X0_sizeBelow : MK M_X0_sizeBelow 1 := ⟨gtb_in 382 (by decide +kernel) (by decide +kernel), gtb_in 77 (by decide +kernel) (by decide +kernel), ⟨by decide, by decide, by decide +kernel⟩, rfl, rfl⟩
theorem mv_X0_sizeBelow : MV M_X0_sizeBelow := ⟨gtb_in 381 (by decide +kernel) (by decide +kernel), gtb_in 8 (by decide +kernel) (by decide +kernel)⟩
def M_X0_measure : MI := (yX0_measure, cX0_measure, 3, none, { frames := 2, cells := 0, slots := 0, locals := 42 })
theorem mk_X0_measure : MK M_X0_measure 0 := ⟨gtb_in 378 (by decide +kernel) (by decide +kernel), gtb_in 77 (by decide +kernel) (by decide +kernel), ⟨by decide, by decide, by decide +kernel⟩, rfl, rfl⟩
theorem mv_X0_measure : MV M_X0_measure := ⟨gtb_in 377 (by decide +kernel) (by decide +kernel), gtb_in 7 (by decide +kernel) (by decide +kernel)⟩
def M_X0_parse : MI := (yX0_parse, cX0_parse, 2, none, { frames := 4, cells := 0, slots := 0, locals := 91 })
theorem mk_X0_parse : MK M_X0_parse 0 := ⟨gtb_in 343 (by decide +kernel) (by decide +kernel), gtb_in 77 (by decide +kernel) (by decide +kernel), ⟨by decide, by decide, by decide +kernel⟩, rfl, rfl⟩
theorem mv_X0_parse : MV M_X0_parse := ⟨gtb_in 341 (by decide +kernel) (by decide +kernel), gtb_in 342 (by decide +kernel) (by decide +kernel)⟩
def M_X3_set : MI := (yX3_set, cX3_set, 6, none, { frames := 0, cells := 0, slots := 0, locals := 0 })
theorem mk_X3_set : MK M_X3_set 5 := ⟨gtb_in 403 (by decide +kernel) (by decide +kernel), gtb_in 79 (by decide +kernel) (by decide +kernel), ⟨by decide, by decide, by decide +kernel⟩, rfl, rfl⟩
theorem mv_X3_set : MV M_X3_set := ⟨gtb_in 401 (by decide +kernel) (by decide +kernel), gtb_in 402 (by decide +kernel) (by decide +kernel)⟩
def M_X3_setWord : MI := (yX3_setWord, cX3_setWord, 3, none, { frames := 1, cells := 0, slots := 0, locals := 25 })
theorem mk_X3_setWord : MK M_X3_setWord 2 := ⟨gtb_in 399 (by decide +kernel) (by decide +kernel), gtb_in 79 (by decide +kernel) (by decide +kernel), ⟨by decide, by decide, by decide +kernel⟩, rfl, rfl⟩
theorem mv_X3_setWord : MV M_X3_setWord := ⟨gtb_in 397 (by decide +kernel) (by decide +kernel), gtb_in 398 (by decide +kernel) (by decide +kernel)⟩
def M_X3_has : MI := (yX3_has, cX3_has, 2, some .boolean, { frames := 0, cells := 0, slots := 0, locals := 0 })
theorem mk_X3_has : MK M_X3_has 1 := ⟨gtb_in 411 (by decide +kernel) (by decide +kernel), gtb_in 79 (by decide +kernel) (by decide +kernel), ⟨by decide, by decide, by decide +kernel⟩, rfl, rfl⟩
theorem mv_X3_has : MV M_X3_has := ⟨gtb_in 409 (by decide +kernel) (by decide +kernel), gtb_in 410 (by decide +kernel) (by decide +kernel)⟩
def M_X3_setLike : MI := (yX3_setLike, cX3_setLike, 4, none, { frames := 1, cells := 0, slots := 0, locals := 25 })
theorem mk_X3_setLike : MK M_X3_setLike 3 := ⟨gtb_in 407 (by decide +kernel) (by decide +kernel), gtb_in 79 (by decide +kernel) (by decide +kernel), ⟨by decide, by decide, by decide +kernel⟩, rfl, rfl⟩
theorem mv_X3_setLike : MV M_X3_setLike := ⟨gtb_in 405 (by decide +kernel) (by decide +kernel), gtb_in 406 (by decide +kernel) (by decide +kernel)⟩
def M_X3_tell : MI := (yX3_tell, cX3_tell, 3, some .int, { frames := 0, cells := 0, slots := 0, locals := 0 })
theorem mk_X3_tell : MK M_X3_tell 2 := ⟨gtb_in 419 (by decide +kernel) (by decide +kernel), gtb_in 79 (by decide +kernel) (by decide +kernel), ⟨by decide, by decide, by decide +kernel⟩, rfl, rfl⟩
theorem mv_X3_tell : MV M_X3_tell := ⟨gtb_in 417 (by decide +kernel) (by decide +kernel), gtb_in 418 (by decide +kernel) (by decide +kernel)⟩
def M_X5_stands : MI := (yX5_stands, cX5_stands, 2, some .boolean, { frames := 1, cells := 0, slots := 0, locals := 22 })
theorem mk_X5_stands : MK M_X5_stands 1 := ⟨gtb_in 415 (by decide +kernel) (by decide +kernel), gtb_in 81 (by decide +kernel) (by decide +kernel), ⟨by decide, by decide, by decide +kernel⟩, rfl, rfl⟩
theorem mv_X5_stands : MV M_X5_stands := ⟨gtb_in 414 (by decide +kernel) (by decide +kernel), gtb_in 10 (by decide +kernel) (by decide +kernel)⟩
def M_X3_setMade : MI := (yX3_setMade, cX3_setMade, 6, none, { frames := 1, cells := 0, slots := 0, locals := 25 })
theorem mk_X3_setMade : MK M_X3_setMade 5 := ⟨gtb_in 424 (by decide +kernel) (by decide +kernel), gtb_in 79 (by decide +kernel) (by decide +kernel), ⟨by decide, by decide, by decide +kernel⟩, rfl, rfl⟩
theorem mv_X3_setMade : MV M_X3_setMade := ⟨gtb_in 422 (by decide +kernel) (by decide +kernel), gtb_in 423 (by decide +kernel) (by decide +kernel)⟩
def M_X5_shapeOne : MI := (yX5_shapeOne, cX5_shapeOne, 8, none, { frames := 2, cells := 0, slots := 0, locals := 50 })
theorem mk_X5_shapeOne : MK M_X5_shapeOne 3 := ⟨gtb_in 394 (by decide +kernel) (by decide +kernel), gtb_in 81 (by decide +kernel) (by decide +kernel), ⟨by decide, by decide, by decide +kernel⟩, rfl, rfl⟩
theorem mv_X5_shapeOne : MV M_X5_shapeOne := ⟨gtb_in 393 (by decide +kernel) (by decide +kernel), gtb_in 9 (by decide +kernel) (by decide +kernel)⟩
def M_X5_shapeParts : MI := (yX5_shapeParts, cX5_shapeParts, 4, none, { frames := 3, cells := 0, slots := 0, locals := 77 })
theorem mk_X5_shapeParts : MK M_X5_shapeParts 2 := ⟨gtb_in 390 (by decide +kernel) (by decide +kernel), gtb_in 81 (by decide +kernel) (by decide +kernel), ⟨by decide, by decide, by decide +kernel⟩, rfl, rfl⟩
theorem mv_X5_shapeParts : MV M_X5_shapeParts := ⟨gtb_in 388 (by decide +kernel) (by decide +kernel), gtb_in 389 (by decide +kernel) (by decide +kernel)⟩
def M_X5_findLines : MI := (yX5_findLines, cX5_findLines, 4, none, { frames := 1, cells := 0, slots := 0, locals := 22 })
theorem mk_X5_findLines : MK M_X5_findLines 0 := ⟨gtb_in 428 (by decide +kernel) (by decide +kernel), gtb_in 81 (by decide +kernel) (by decide +kernel), ⟨by decide, by decide, by decide +kernel⟩, rfl, rfl⟩
theorem mv_X5_findLines : MV M_X5_findLines := ⟨gtb_in 427 (by decide +kernel) (by decide +kernel), gtb_in 11 (by decide +kernel) (by decide +kernel)⟩
def M_X5_findShrinks : MI := (yX5_findShrinks, cX5_findShrinks, 2, none, { frames := 0, cells := 0, slots := 0, locals := 0 })
theorem mk_X5_findShrinks : MK M_X5_findShrinks 0 := ⟨gtb_in 432 (by decide +kernel) (by decide +kernel), gtb_in 81 (by decide +kernel) (by decide +kernel), ⟨by decide, by decide, by decide +kernel⟩, rfl, rfl⟩
theorem mv_X5_findShrinks : MV M_X5_findShrinks := ⟨gtb_in 431 (by decide +kernel) (by decide +kernel), gtb_in 12 (by decide +kernel) (by decide +kernel)⟩
def M_X5_make : MI := (yX5_make, cX5_make, 3, none, { frames := 4, cells := 0, slots := 0, locals := 100 })
theorem mk_X5_make : MK M_X5_make 1 := ⟨gtb_in 386 (by decide +kernel) (by decide +kernel), gtb_in 81 (by decide +kernel) (by decide +kernel), ⟨by decide, by decide, by decide +kernel⟩, rfl, rfl⟩
theorem mv_X5_make : MV M_X5_make := ⟨gtb_in 384 (by decide +kernel) (by decide +kernel), gtb_in 385 (by decide +kernel) (by decide +kernel)⟩
def M_X6_readDoc : MI := (yX6_readDoc, cX6_readDoc, 1, none, { frames := 5, cells := 0, slots := 0, locals := 122 })
theorem mk_X6_readDoc : MK M_X6_readDoc 0 := ⟨gtb_in 339 (by decide +kernel) (by decide +kernel), gtb_in 76 (by decide +kernel) (by decide +kernel), ⟨by decide, by decide, by decide +kernel⟩, rfl, rfl⟩
theorem mv_X6_readDoc : MV M_X6_readDoc := ⟨gtb_in 338 (by decide +kernel) (by decide +kernel), gtb_in 0 (by decide +kernel) (by decide +kernel)⟩
def M_X1_trialPlace : MI := (yX1_trialPlace, cX1_trialPlace, 2, some .int, { frames := 0, cells := 0, slots := 0, locals := 0 })
theorem mk_X1_trialPlace : MK M_X1_trialPlace 1 := ⟨gtb_in 452 (by decide +kernel) (by decide +kernel), gtb_in 78 (by decide +kernel) (by decide +kernel), ⟨by decide, by decide, by decide +kernel⟩, rfl, rfl⟩
theorem mv_X1_trialPlace : MV M_X1_trialPlace := ⟨gtb_in 451 (by decide +kernel) (by decide +kernel), gtb_in 15 (by decide +kernel) (by decide +kernel)⟩
def M_X3_noneGreater : MI := (yX3_noneGreater, cX3_noneGreater, 3, some .boolean, { frames := 0, cells := 0, slots := 0, locals := 0 })
theorem mk_X3_noneGreater : MK M_X3_noneGreater 2 := ⟨gtb_in 457 (by decide +kernel) (by decide +kernel), gtb_in 79 (by decide +kernel) (by decide +kernel), ⟨by decide, by decide, by decide +kernel⟩, rfl, rfl⟩
theorem mv_X3_noneGreater : MV M_X3_noneGreater := ⟨gtb_in 455 (by decide +kernel) (by decide +kernel), gtb_in 456 (by decide +kernel) (by decide +kernel)⟩
def M_X1_tryLast : MI := (yX1_tryLast, cX1_tryLast, 8, none, { frames := 2, cells := 0, slots := 0, locals := 48 })
theorem mk_X1_tryLast : MK M_X1_tryLast 2 := ⟨gtb_in 448 (by decide +kernel) (by decide +kernel), gtb_in 78 (by decide +kernel) (by decide +kernel), ⟨by decide, by decide, by decide +kernel⟩, rfl, rfl⟩
theorem mv_X1_tryLast : MV M_X1_tryLast := ⟨gtb_in 447 (by decide +kernel) (by decide +kernel), gtb_in 14 (by decide +kernel) (by decide +kernel)⟩
def M_X1_sizeOf : MI := (yX1_sizeOf, cX1_sizeOf, 2, some .int, { frames := 0, cells := 0, slots := 0, locals := 0 })
theorem mk_X1_sizeOf : MK M_X1_sizeOf 1 := ⟨gtb_in 466 (by decide +kernel) (by decide +kernel), gtb_in 78 (by decide +kernel) (by decide +kernel), ⟨by decide, by decide, by decide +kernel⟩, rfl, rfl⟩
theorem mv_X1_sizeOf : MV M_X1_sizeOf := ⟨gtb_in 464 (by decide +kernel) (by decide +kernel), gtb_in 465 (by decide +kernel) (by decide +kernel)⟩
def M_X1_tryEach : MI := (yX1_tryEach, cX1_tryEach, 6, none, { frames := 3, cells := 0, slots := 0, locals := 75 })
theorem mk_X1_tryEach : MK M_X1_tryEach 4 := ⟨gtb_in 462 (by decide +kernel) (by decide +kernel), gtb_in 78 (by decide +kernel) (by decide +kernel), ⟨by decide, by decide, by decide +kernel⟩, rfl, rfl⟩
theorem mv_X1_tryEach : MV M_X1_tryEach := ⟨gtb_in 461 (by decide +kernel) (by decide +kernel), gtb_in 16 (by decide +kernel) (by decide +kernel)⟩
def M_X1_tryPairs : MI := (yX1_tryPairs, cX1_tryPairs, 8, none, { frames := 3, cells := 0, slots := 0, locals := 75 })
theorem mk_X1_tryPairs : MK M_X1_tryPairs 3 := ⟨gtb_in 470 (by decide +kernel) (by decide +kernel), gtb_in 78 (by decide +kernel) (by decide +kernel), ⟨by decide, by decide, by decide +kernel⟩, rfl, rfl⟩
theorem mv_X1_tryPairs : MV M_X1_tryPairs := ⟨gtb_in 469 (by decide +kernel) (by decide +kernel), gtb_in 17 (by decide +kernel) (by decide +kernel)⟩
def M_X1_tryAlone : MI := (yX1_tryAlone, cX1_tryAlone, 7, none, { frames := 3, cells := 0, slots := 0, locals := 75 })
theorem mk_X1_tryAlone : MK M_X1_tryAlone 3 := ⟨gtb_in 475 (by decide +kernel) (by decide +kernel), gtb_in 78 (by decide +kernel) (by decide +kernel), ⟨by decide, by decide, by decide +kernel⟩, rfl, rfl⟩
theorem mv_X1_tryAlone : MV M_X1_tryAlone := ⟨gtb_in 474 (by decide +kernel) (by decide +kernel), gtb_in 18 (by decide +kernel) (by decide +kernel)⟩
def M_X1_make : MI := (yX1_make, cX1_make, 4, none, { frames := 4, cells := 0, slots := 0, locals := 102 })
theorem mk_X1_make : MK M_X1_make 2 := ⟨gtb_in 440 (by decide +kernel) (by decide +kernel), gtb_in 78 (by decide +kernel) (by decide +kernel), ⟨by decide, by decide, by decide +kernel⟩, rfl, rfl⟩
theorem mv_X1_make : MV M_X1_make := ⟨gtb_in 438 (by decide +kernel) (by decide +kernel), gtb_in 439 (by decide +kernel) (by decide +kernel)⟩
def M_X3_fewerLines : MI := (yX3_fewerLines, cX3_fewerLines, 3, some .boolean, { frames := 1, cells := 0, slots := 0, locals := 21 })
theorem mk_X3_fewerLines : MK M_X3_fewerLines 2 := ⟨gtb_in 484 (by decide +kernel) (by decide +kernel), gtb_in 79 (by decide +kernel) (by decide +kernel), ⟨by decide, by decide, by decide +kernel⟩, rfl, rfl⟩
theorem mv_X3_fewerLines : MV M_X3_fewerLines := ⟨gtb_in 482 (by decide +kernel) (by decide +kernel), gtb_in 483 (by decide +kernel) (by decide +kernel)⟩
def M_X1_fewestLines : MI := (yX1_fewestLines, cX1_fewestLines, 3, some .int, { frames := 2, cells := 0, slots := 0, locals := 43 })
theorem mk_X1_fewestLines : MK M_X1_fewestLines 0 := ⟨gtb_in 480 (by decide +kernel) (by decide +kernel), gtb_in 78 (by decide +kernel) (by decide +kernel), ⟨by decide, by decide, by decide +kernel⟩, rfl, rfl⟩
theorem mv_X1_fewestLines : MV M_X1_fewestLines := ⟨gtb_in 478 (by decide +kernel) (by decide +kernel), gtb_in 479 (by decide +kernel) (by decide +kernel)⟩
def M_X3_lessMost : MI := (yX3_lessMost, cX3_lessMost, 3, some .boolean, { frames := 1, cells := 0, slots := 0, locals := 21 })
theorem mk_X3_lessMost : MK M_X3_lessMost 2 := ⟨gtb_in 492 (by decide +kernel) (by decide +kernel), gtb_in 79 (by decide +kernel) (by decide +kernel), ⟨by decide, by decide, by decide +kernel⟩, rfl, rfl⟩
theorem mv_X3_lessMost : MV M_X3_lessMost := ⟨gtb_in 490 (by decide +kernel) (by decide +kernel), gtb_in 491 (by decide +kernel) (by decide +kernel)⟩
def M_X1_leastMost : MI := (yX1_leastMost, cX1_leastMost, 3, some .int, { frames := 2, cells := 0, slots := 0, locals := 43 })
theorem mk_X1_leastMost : MK M_X1_leastMost 0 := ⟨gtb_in 488 (by decide +kernel) (by decide +kernel), gtb_in 78 (by decide +kernel) (by decide +kernel), ⟨by decide, by decide, by decide +kernel⟩, rfl, rfl⟩
theorem mv_X1_leastMost : MV M_X1_leastMost := ⟨gtb_in 486 (by decide +kernel) (by decide +kernel), gtb_in 487 (by decide +kernel) (by decide +kernel)⟩
def M_X2_clear : MI := (yX2_clear, cX2_clear, 1, none, { frames := 0, cells := 0, slots := 0, locals := 0 })
theorem mk_X2_clear : MK M_X2_clear 0 := ⟨gtb_in 496 (by decide +kernel) (by decide +kernel), gtb_in 82 (by decide +kernel) (by decide +kernel), ⟨by decide, by decide, by decide +kernel⟩, rfl, rfl⟩
theorem mv_X2_clear : MV M_X2_clear := ⟨gtb_in 494 (by decide +kernel) (by decide +kernel), gtb_in 495 (by decide +kernel) (by decide +kernel)⟩
def M_X2_putAt : MI := (yX2_putAt, cX2_putAt, 4, none, { frames := 0, cells := 0, slots := 0, locals := 0 })
theorem mk_X2_putAt : MK M_X2_putAt 3 := ⟨gtb_in 511 (by decide +kernel) (by decide +kernel), gtb_in 82 (by decide +kernel) (by decide +kernel), ⟨by decide, by decide, by decide +kernel⟩, rfl, rfl⟩
theorem mv_X2_putAt : MV M_X2_putAt := ⟨gtb_in 510 (by decide +kernel) (by decide +kernel), gtb_in 20 (by decide +kernel) (by decide +kernel)⟩
def M_X2_placeBelow : MI := (yX2_placeBelow, cX2_placeBelow, 7, none, { frames := 1, cells := 0, slots := 0, locals := 23 })
theorem mk_X2_placeBelow : MK M_X2_placeBelow 4 := ⟨gtb_in 517 (by decide +kernel) (by decide +kernel), gtb_in 82 (by decide +kernel) (by decide +kernel), ⟨by decide, by decide, by decide +kernel⟩, rfl, rfl⟩
theorem mv_X2_placeBelow : MV M_X2_placeBelow := ⟨gtb_in 516 (by decide +kernel) (by decide +kernel), gtb_in 21 (by decide +kernel) (by decide +kernel)⟩
def M_X2_place : MI := (yX2_place, cX2_place, 5, none, { frames := 2, cells := 0, slots := 0, locals := 49 })
theorem mk_X2_place : MK M_X2_place 2 := ⟨gtb_in 507 (by decide +kernel) (by decide +kernel), gtb_in 82 (by decide +kernel) (by decide +kernel), ⟨by decide, by decide, by decide +kernel⟩, rfl, rfl⟩
theorem mv_X2_place : MV M_X2_place := ⟨gtb_in 505 (by decide +kernel) (by decide +kernel), gtb_in 506 (by decide +kernel) (by decide +kernel)⟩
def M_X6_keepBest : MI := (yX6_keepBest, cX6_keepBest, 3, none, { frames := 4, cells := 0, slots := 0, locals := 100 })
theorem mk_X6_keepBest : MK M_X6_keepBest 1 := ⟨gtb_in 500 (by decide +kernel) (by decide +kernel), gtb_in 76 (by decide +kernel) (by decide +kernel), ⟨by decide, by decide, by decide +kernel⟩, rfl, rfl⟩
theorem mv_X6_keepBest : MV M_X6_keepBest := ⟨gtb_in 499 (by decide +kernel) (by decide +kernel), gtb_in 19 (by decide +kernel) (by decide +kernel)⟩
def M_X6_chooseBest : MI := (yX6_chooseBest, cX6_chooseBest, 2, none, { frames := 5, cells := 0, slots := 0, locals := 125 })
theorem mk_X6_chooseBest : MK M_X6_chooseBest 0 := ⟨gtb_in 436 (by decide +kernel) (by decide +kernel), gtb_in 76 (by decide +kernel) (by decide +kernel), ⟨by decide, by decide, by decide +kernel⟩, rfl, rfl⟩
theorem mv_X6_chooseBest : MV M_X6_chooseBest := ⟨gtb_in 435 (by decide +kernel) (by decide +kernel), gtb_in 13 (by decide +kernel) (by decide +kernel)⟩
def M_X6_type : MI := (yX6_type, cX6_type, 2, some .int, { frames := 6, cells := 0, slots := 0, locals := 146 })
theorem mk_X6_type : MK M_X6_type 1 := ⟨gtb_in 328 (by decide +kernel) (by decide +kernel), gtb_in 76 (by decide +kernel) (by decide +kernel), ⟨by decide, by decide, by decide +kernel⟩, rfl, rfl⟩
theorem mv_X6_type : MV M_X6_type := ⟨gtb_in 326 (by decide +kernel) (by decide +kernel), gtb_in 327 (by decide +kernel) (by decide +kernel)⟩
def M_X6_wipe : MI := (yX6_wipe, cX6_wipe, 2, some .int, { frames := 6, cells := 0, slots := 0, locals := 146 })
theorem mk_X6_wipe : MK M_X6_wipe 0 := ⟨gtb_in 521 (by decide +kernel) (by decide +kernel), gtb_in 76 (by decide +kernel) (by decide +kernel), ⟨by decide, by decide, by decide +kernel⟩, rfl, rfl⟩
theorem mv_X6_wipe : MV M_X6_wipe := ⟨gtb_in 519 (by decide +kernel) (by decide +kernel), gtb_in 520 (by decide +kernel) (by decide +kernel)⟩
def M_X6_undo : MI := (yX6_undo, cX6_undo, 1, some .int, { frames := 6, cells := 0, slots := 0, locals := 146 })
theorem mk_X6_undo : MK M_X6_undo 0 := ⟨gtb_in 525 (by decide +kernel) (by decide +kernel), gtb_in 76 (by decide +kernel) (by decide +kernel), ⟨by decide, by decide, by decide +kernel⟩, rfl, rfl⟩
theorem mv_X6_undo : MV M_X6_undo := ⟨gtb_in 523 (by decide +kernel) (by decide +kernel), gtb_in 524 (by decide +kernel) (by decide +kernel)⟩
def M_X6_fault : MI := (yX6_fault, cX6_fault, 1, some .int, { frames := 0, cells := 0, slots := 0, locals := 0 })
theorem mk_X6_fault : MK M_X6_fault 0 := ⟨gtb_in 529 (by decide +kernel) (by decide +kernel), gtb_in 76 (by decide +kernel) (by decide +kernel), ⟨by decide, by decide, by decide +kernel⟩, rfl, rfl⟩
theorem mv_X6_fault : MV M_X6_fault := ⟨gtb_in 527 (by decide +kernel) (by decide +kernel), gtb_in 528 (by decide +kernel) (by decide +kernel)⟩
def M_X6_width : MI := (yX6_width, cX6_width, 3, some .int, { frames := 6, cells := 0, slots := 0, locals := 146 })
theorem mk_X6_width : MK M_X6_width 1 := ⟨gtb_in 533 (by decide +kernel) (by decide +kernel), gtb_in 76 (by decide +kernel) (by decide +kernel), ⟨by decide, by decide, by decide +kernel⟩, rfl, rfl⟩
theorem mv_X6_width : MV M_X6_width := ⟨gtb_in 531 (by decide +kernel) (by decide +kernel), gtb_in 532 (by decide +kernel) (by decide +kernel)⟩
def M_X6_sheetOf : MI := (yX6_sheetOf, cX6_sheetOf, 2, some (.object "PrettyShapes$Sheet"), { frames := 0, cells := 0, slots := 0, locals := 0 })
theorem mk_X6_sheetOf : MK M_X6_sheetOf 1 := ⟨gtb_in 541 (by decide +kernel) (by decide +kernel), gtb_in 76 (by decide +kernel) (by decide +kernel), ⟨by decide, by decide, by decide +kernel⟩, rfl, rfl⟩
theorem mv_X6_sheetOf : MV M_X6_sheetOf := ⟨gtb_in 540 (by decide +kernel) (by decide +kernel), gtb_in 22 (by decide +kernel) (by decide +kernel)⟩
def M_X4_isLost : MI := (yX4_isLost, cX4_isLost, 1, some .boolean, { frames := 0, cells := 0, slots := 0, locals := 0 })
theorem mk_X4_isLost : MK M_X4_isLost 0 := ⟨gtb_in 545 (by decide +kernel) (by decide +kernel), gtb_in 83 (by decide +kernel) (by decide +kernel), ⟨by decide, by decide, by decide +kernel⟩, rfl, rfl⟩
theorem mv_X4_isLost : MV M_X4_isLost := ⟨gtb_in 543 (by decide +kernel) (by decide +kernel), gtb_in 544 (by decide +kernel) (by decide +kernel)⟩
def M_X6_found : MI := (yX6_found, cX6_found, 2, some .int, { frames := 0, cells := 0, slots := 0, locals := 0 })
theorem mk_X6_found : MK M_X6_found 1 := ⟨gtb_in 549 (by decide +kernel) (by decide +kernel), gtb_in 76 (by decide +kernel) (by decide +kernel), ⟨by decide, by decide, by decide +kernel⟩, rfl, rfl⟩
theorem mv_X6_found : MV M_X6_found := ⟨gtb_in 548 (by decide +kernel) (by decide +kernel), gtb_in 23 (by decide +kernel) (by decide +kernel)⟩
def M_X4_itemAt : MI := (yX4_itemAt, cX4_itemAt, 2, some .int, { frames := 0, cells := 0, slots := 0, locals := 0 })
theorem mk_X4_itemAt : MK M_X4_itemAt 1 := ⟨gtb_in 553 (by decide +kernel) (by decide +kernel), gtb_in 83 (by decide +kernel) (by decide +kernel), ⟨by decide, by decide, by decide +kernel⟩, rfl, rfl⟩
theorem mv_X4_itemAt : MV M_X4_itemAt := ⟨gtb_in 551 (by decide +kernel) (by decide +kernel), gtb_in 552 (by decide +kernel) (by decide +kernel)⟩
def M_X6_read : MI := (yX6_read, cX6_read, 4, some .int, { frames := 6, cells := 0, slots := 0, locals := 146 })
theorem mk_X6_read : MK M_X6_read 1 := ⟨gtb_in 537 (by decide +kernel) (by decide +kernel), gtb_in 76 (by decide +kernel) (by decide +kernel), ⟨by decide, by decide, by decide +kernel⟩, rfl, rfl⟩
theorem mv_X6_read : MV M_X6_read := ⟨gtb_in 535 (by decide +kernel) (by decide +kernel), gtb_in 536 (by decide +kernel) (by decide +kernel)⟩
def M_X6_part : MI := (yX6_part, cX6_part, 3, some .int, { frames := 1, cells := 0, slots := 0, locals := 21 })
theorem mk_X6_part : MK M_X6_part 2 := ⟨gtb_in 557 (by decide +kernel) (by decide +kernel), gtb_in 76 (by decide +kernel) (by decide +kernel), ⟨by decide, by decide, by decide +kernel⟩, rfl, rfl⟩
theorem mv_X6_part : MV M_X6_part := ⟨gtb_in 555 (by decide +kernel) (by decide +kernel), gtb_in 556 (by decide +kernel) (by decide +kernel)⟩
def M_X6_frontier : MI := (yX6_frontier, cX6_frontier, 4, some .int, { frames := 1, cells := 0, slots := 0, locals := 22 })
theorem mk_X6_frontier : MK M_X6_frontier 3 := ⟨gtb_in 563 (by decide +kernel) (by decide +kernel), gtb_in 76 (by decide +kernel) (by decide +kernel), ⟨by decide, by decide, by decide +kernel⟩, rfl, rfl⟩
theorem mv_X6_frontier : MV M_X6_frontier := ⟨gtb_in 561 (by decide +kernel) (by decide +kernel), gtb_in 562 (by decide +kernel) (by decide +kernel)⟩
def M_X6_tried : MI := (yX6_tried, cX6_tried, 2, some .int, { frames := 0, cells := 0, slots := 0, locals := 0 })
theorem mk_X6_tried : MK M_X6_tried 1 := ⟨gtb_in 567 (by decide +kernel) (by decide +kernel), gtb_in 76 (by decide +kernel) (by decide +kernel), ⟨by decide, by decide, by decide +kernel⟩, rfl, rfl⟩
theorem mv_X6_tried : MV M_X6_tried := ⟨gtb_in 565 (by decide +kernel) (by decide +kernel), gtb_in 566 (by decide +kernel) (by decide +kernel)⟩
def M_X6_best : MI := (yX6_best, cX6_best, 2, some .int, { frames := 1, cells := 0, slots := 0, locals := 22 })
theorem mk_X6_best : MK M_X6_best 1 := ⟨gtb_in 571 (by decide +kernel) (by decide +kernel), gtb_in 76 (by decide +kernel) (by decide +kernel), ⟨by decide, by decide, by decide +kernel⟩, rfl, rfl⟩
theorem mv_X6_best : MV M_X6_best := ⟨gtb_in 569 (by decide +kernel) (by decide +kernel), gtb_in 570 (by decide +kernel) (by decide +kernel)⟩
def M_X2_isWordOn : MI := (yX2_isWordOn, cX2_isWordOn, 3, some .boolean, { frames := 0, cells := 0, slots := 0, locals := 0 })
theorem mk_X2_isWordOn : MK M_X2_isWordOn 2 := ⟨gtb_in 583 (by decide +kernel) (by decide +kernel), gtb_in 82 (by decide +kernel) (by decide +kernel), ⟨by decide, by decide, by decide +kernel⟩, rfl, rfl⟩
theorem mv_X2_isWordOn : MV M_X2_isWordOn := ⟨gtb_in 582 (by decide +kernel) (by decide +kernel), gtb_in 24 (by decide +kernel) (by decide +kernel)⟩
def M_X2_columnsOf : MI := (yX2_columnsOf, cX2_columnsOf, 4, some .int, { frames := 1, cells := 0, slots := 0, locals := 22 })
theorem mk_X2_columnsOf : MK M_X2_columnsOf 1 := ⟨gtb_in 579 (by decide +kernel) (by decide +kernel), gtb_in 82 (by decide +kernel) (by decide +kernel), ⟨by decide, by decide, by decide +kernel⟩, rfl, rfl⟩
theorem mv_X2_columnsOf : MV M_X2_columnsOf := ⟨gtb_in 577 (by decide +kernel) (by decide +kernel), gtb_in 578 (by decide +kernel) (by decide +kernel)⟩
def M_X2_byteAt : MI := (yX2_byteAt, cX2_byteAt, 5, some .int, { frames := 2, cells := 0, slots := 0, locals := 45 })
theorem mk_X2_byteAt : MK M_X2_byteAt 2 := ⟨gtb_in 588 (by decide +kernel) (by decide +kernel), gtb_in 82 (by decide +kernel) (by decide +kernel), ⟨by decide, by decide, by decide +kernel⟩, rfl, rfl⟩
theorem mv_X2_byteAt : MV M_X2_byteAt := ⟨gtb_in 586 (by decide +kernel) (by decide +kernel), gtb_in 587 (by decide +kernel) (by decide +kernel)⟩
def M_X6_line : MI := (yX6_line, cX6_line, 3, some .int, { frames := 3, cells := 0, slots := 0, locals := 69 })
theorem mk_X6_line : MK M_X6_line 2 := ⟨gtb_in 575 (by decide +kernel) (by decide +kernel), gtb_in 76 (by decide +kernel) (by decide +kernel), ⟨by decide, by decide, by decide +kernel⟩, rfl, rfl⟩
theorem mv_X6_line : MV M_X6_line := ⟨gtb_in 573 (by decide +kernel) (by decide +kernel), gtb_in 574 (by decide +kernel) (by decide +kernel)⟩
def M_X5_tell : MI := (yX5_tell, cX5_tell, 4, some .int, { frames := 1, cells := 0, slots := 0, locals := 22 })
theorem mk_X5_tell : MK M_X5_tell 2 := ⟨gtb_in 597 (by decide +kernel) (by decide +kernel), gtb_in 81 (by decide +kernel) (by decide +kernel), ⟨by decide, by decide, by decide +kernel⟩, rfl, rfl⟩
theorem mv_X5_tell : MV M_X5_tell := ⟨gtb_in 595 (by decide +kernel) (by decide +kernel), gtb_in 596 (by decide +kernel) (by decide +kernel)⟩
def M_X6_way : MI := (yX6_way, cX6_way, 3, some .int, { frames := 2, cells := 0, slots := 0, locals := 45 })
theorem mk_X6_way : MK M_X6_way 2 := ⟨gtb_in 593 (by decide +kernel) (by decide +kernel), gtb_in 76 (by decide +kernel) (by decide +kernel), ⟨by decide, by decide, by decide +kernel⟩, rfl, rfl⟩
theorem mv_X6_way : MV M_X6_way := ⟨gtb_in 591 (by decide +kernel) (by decide +kernel), gtb_in 592 (by decide +kernel) (by decide +kernel)⟩
def M_X5_fits : MI := (yX5_fits, cX5_fits, 3, some .boolean, { frames := 1, cells := 0, slots := 0, locals := 22 })
theorem mk_X5_fits : MK M_X5_fits 2 := ⟨gtb_in 613 (by decide +kernel) (by decide +kernel), gtb_in 81 (by decide +kernel) (by decide +kernel), ⟨by decide, by decide, by decide +kernel⟩, rfl, rfl⟩
theorem mv_X5_fits : MV M_X5_fits := ⟨gtb_in 612 (by decide +kernel) (by decide +kernel), gtb_in 26 (by decide +kernel) (by decide +kernel)⟩
def M_X5_isAny : MI := (yX5_isAny, cX5_isAny, 5, some .boolean, { frames := 2, cells := 0, slots := 0, locals := 44 })
theorem mk_X5_isAny : MK M_X5_isAny 3 := ⟨gtb_in 609 (by decide +kernel) (by decide +kernel), gtb_in 81 (by decide +kernel) (by decide +kernel), ⟨by decide, by decide, by decide +kernel⟩, rfl, rfl⟩
theorem mv_X5_isAny : MV M_X5_isAny := ⟨gtb_in 608 (by decide +kernel) (by decide +kernel), gtb_in 25 (by decide +kernel) (by decide +kernel)⟩
def M_X5_hasty : MI := (yX5_hasty, cX5_hasty, 6, some .int, { frames := 3, cells := 0, slots := 0, locals := 68 })
theorem mk_X5_hasty : MK M_X5_hasty 2 := ⟨gtb_in 605 (by decide +kernel) (by decide +kernel), gtb_in 81 (by decide +kernel) (by decide +kernel), ⟨by decide, by decide, by decide +kernel⟩, rfl, rfl⟩
theorem mv_X5_hasty : MV M_X5_hasty := ⟨gtb_in 603 (by decide +kernel) (by decide +kernel), gtb_in 604 (by decide +kernel) (by decide +kernel)⟩
def M_X6_haste : MI := (yX6_haste, cX6_haste, 3, some .int, { frames := 4, cells := 0, slots := 0, locals := 93 })
theorem mk_X6_haste : MK M_X6_haste 1 := ⟨gtb_in 601 (by decide +kernel) (by decide +kernel), gtb_in 76 (by decide +kernel) (by decide +kernel), ⟨by decide, by decide, by decide +kernel⟩, rfl, rfl⟩
theorem mv_X6_haste : MV M_X6_haste := ⟨gtb_in 599 (by decide +kernel) (by decide +kernel), gtb_in 600 (by decide +kernel) (by decide +kernel)⟩
def M_X6_enough : MI := (yX6_enough, cX6_enough, 1, some .int, { frames := 0, cells := 0, slots := 0, locals := 0 })
theorem mk_X6_enough : MK M_X6_enough 0 := ⟨gtb_in 617 (by decide +kernel) (by decide +kernel), gtb_in 76 (by decide +kernel) (by decide +kernel), ⟨by decide, by decide, by decide +kernel⟩, rfl, rfl⟩
theorem mv_X6_enough : MV M_X6_enough := ⟨gtb_in 615 (by decide +kernel) (by decide +kernel), gtb_in 616 (by decide +kernel) (by decide +kernel)⟩
def M_X5_shrinkAt : MI := (yX5_shrinkAt, cX5_shrinkAt, 2, some .int, { frames := 0, cells := 0, slots := 0, locals := 0 })
theorem mk_X5_shrinkAt : MK M_X5_shrinkAt 1 := ⟨gtb_in 625 (by decide +kernel) (by decide +kernel), gtb_in 81 (by decide +kernel) (by decide +kernel), ⟨by decide, by decide, by decide +kernel⟩, rfl, rfl⟩
theorem mv_X5_shrinkAt : MV M_X5_shrinkAt := ⟨gtb_in 623 (by decide +kernel) (by decide +kernel), gtb_in 624 (by decide +kernel) (by decide +kernel)⟩
def M_X6_shrinks : MI := (yX6_shrinks, cX6_shrinks, 2, some .int, { frames := 1, cells := 0, slots := 0, locals := 21 })
theorem mk_X6_shrinks : MK M_X6_shrinks 1 := ⟨gtb_in 621 (by decide +kernel) (by decide +kernel), gtb_in 76 (by decide +kernel) (by decide +kernel), ⟨by decide, by decide, by decide +kernel⟩, rfl, rfl⟩
theorem mv_X6_shrinks : MV M_X6_shrinks := ⟨gtb_in 619 (by decide +kernel) (by decide +kernel), gtb_in 620 (by decide +kernel) (by decide +kernel)⟩
def M_X5_linesOfLeastMost : MI := (yX5_linesOfLeastMost, cX5_linesOfLeastMost, 5, some .int, { frames := 2, cells := 0, slots := 0, locals := 44 })
theorem mk_X5_linesOfLeastMost : MK M_X5_linesOfLeastMost 1 := ⟨gtb_in 633 (by decide +kernel) (by decide +kernel), gtb_in 81 (by decide +kernel) (by decide +kernel), ⟨by decide, by decide, by decide +kernel⟩, rfl, rfl⟩
theorem mv_X5_linesOfLeastMost : MV M_X5_linesOfLeastMost := ⟨gtb_in 631 (by decide +kernel) (by decide +kernel), gtb_in 632 (by decide +kernel) (by decide +kernel)⟩
def M_X5_fewestLines : MI := (yX5_fewestLines, cX5_fewestLines, 6, some .int, { frames := 2, cells := 0, slots := 0, locals := 44 })
theorem mk_X5_fewestLines : MK M_X5_fewestLines 2 := ⟨gtb_in 638 (by decide +kernel) (by decide +kernel), gtb_in 81 (by decide +kernel) (by decide +kernel), ⟨by decide, by decide, by decide +kernel⟩, rfl, rfl⟩
theorem mv_X5_fewestLines : MV M_X5_fewestLines := ⟨gtb_in 636 (by decide +kernel) (by decide +kernel), gtb_in 637 (by decide +kernel) (by decide +kernel)⟩
def M_X6_spare : MI := (yX6_spare, cX6_spare, 6, some .int, { frames := 3, cells := 0, slots := 0, locals := 69 })
theorem mk_X6_spare : MK M_X6_spare 0 := ⟨gtb_in 629 (by decide +kernel) (by decide +kernel), gtb_in 76 (by decide +kernel) (by decide +kernel), ⟨by decide, by decide, by decide +kernel⟩, rfl, rfl⟩
theorem mv_X6_spare : MV M_X6_spare := ⟨gtb_in 627 (by decide +kernel) (by decide +kernel), gtb_in 628 (by decide +kernel) (by decide +kernel)⟩
def M_X6_isForm : MI := (yX6_isForm, cX6_isForm, 1, some .boolean, { frames := 0, cells := 0, slots := 0, locals := 0 })
theorem mk_X6_isForm : MK M_X6_isForm 1 := ⟨gtb_in 646 (by decide +kernel) (by decide +kernel), gtb_in 76 (by decide +kernel) (by decide +kernel), ⟨by decide, by decide, by decide +kernel⟩, rfl, rfl⟩
theorem ms_X6_isForm : Cond.static M_X6_isForm.1 ∈ gtb := gtb_in 645 (by decide +kernel) (by decide +kernel)
def M_X4_renew : MI := (yX4_renew, cX4_renew, 4, none, { frames := 0, cells := 0, slots := 0, locals := 0 })
theorem mk_X4_renew : MK M_X4_renew 2 := ⟨gtb_in 650 (by decide +kernel) (by decide +kernel), gtb_in 83 (by decide +kernel) (by decide +kernel), ⟨by decide, by decide, by decide +kernel⟩, rfl, rfl⟩
theorem mv_X4_renew : MV M_X4_renew := ⟨gtb_in 648 (by decide +kernel) (by decide +kernel), gtb_in 649 (by decide +kernel) (by decide +kernel)⟩
def M_X6_sheet : MI := (yX6_sheet, cX6_sheet, 5, some .int, { frames := 1, cells := 0, slots := 0, locals := 23 })
theorem mk_X6_sheet : MK M_X6_sheet 3 := ⟨gtb_in 643 (by decide +kernel) (by decide +kernel), gtb_in 76 (by decide +kernel) (by decide +kernel), ⟨by decide, by decide, by decide +kernel⟩, rfl, rfl⟩
theorem mv_X6_sheet : MV M_X6_sheet := ⟨gtb_in 641 (by decide +kernel) (by decide +kernel), gtb_in 642 (by decide +kernel) (by decide +kernel)⟩
def M_X6_lose : MI := (yX6_lose, cX6_lose, 4, some .int, { frames := 1, cells := 0, slots := 0, locals := 23 })
theorem mk_X6_lose : MK M_X6_lose 1 := ⟨gtb_in 654 (by decide +kernel) (by decide +kernel), gtb_in 76 (by decide +kernel) (by decide +kernel), ⟨by decide, by decide, by decide +kernel⟩, rfl, rfl⟩
theorem mv_X6_lose : MV M_X6_lose := ⟨gtb_in 652 (by decide +kernel) (by decide +kernel), gtb_in 653 (by decide +kernel) (by decide +kernel)⟩
def M_X4_hasItems : MI := (yX4_hasItems, cX4_hasItems, 3, some .boolean, { frames := 0, cells := 0, slots := 0, locals := 0 })
theorem mk_X4_hasItems : MK M_X4_hasItems 2 := ⟨gtb_in 665 (by decide +kernel) (by decide +kernel), gtb_in 83 (by decide +kernel) (by decide +kernel), ⟨by decide, by decide, by decide +kernel⟩, rfl, rfl⟩
theorem mv_X4_hasItems : MV M_X4_hasItems := ⟨gtb_in 663 (by decide +kernel) (by decide +kernel), gtb_in 664 (by decide +kernel) (by decide +kernel)⟩
def M_X6_wrongItem : MI := (yX6_wrongItem, cX6_wrongItem, 3, some .int, { frames := 1, cells := 0, slots := 0, locals := 22 })
theorem mk_X6_wrongItem : MK M_X6_wrongItem 3 := ⟨gtb_in 661 (by decide +kernel) (by decide +kernel), gtb_in 76 (by decide +kernel) (by decide +kernel), ⟨by decide, by decide, by decide +kernel⟩, rfl, rfl⟩
theorem ms_X6_wrongItem : Cond.static M_X6_wrongItem.1 ∈ gtb := gtb_in 660 (by decide +kernel) (by decide +kernel)
def M_X4_store : MI := (yX4_store, cX4_store, 3, none, { frames := 0, cells := 0, slots := 0, locals := 0 })
theorem mk_X4_store : MK M_X4_store 2 := ⟨gtb_in 669 (by decide +kernel) (by decide +kernel), gtb_in 83 (by decide +kernel) (by decide +kernel), ⟨by decide, by decide, by decide +kernel⟩, rfl, rfl⟩
theorem mv_X4_store : MV M_X4_store := ⟨gtb_in 667 (by decide +kernel) (by decide +kernel), gtb_in 668 (by decide +kernel) (by decide +kernel)⟩
def M_X6_put : MI := (yX6_put, cX6_put, 7, some .int, { frames := 2, cells := 0, slots := 0, locals := 44 })
theorem mk_X6_put : MK M_X6_put 4 := ⟨gtb_in 658 (by decide +kernel) (by decide +kernel), gtb_in 76 (by decide +kernel) (by decide +kernel), ⟨by decide, by decide, by decide +kernel⟩, rfl, rfl⟩
theorem mv_X6_put : MV M_X6_put := ⟨gtb_in 656 (by decide +kernel) (by decide +kernel), gtb_in 657 (by decide +kernel) (by decide +kernel)⟩
def M_X6_get : MI := (yX6_get, cX6_get, 6, some .int, { frames := 2, cells := 0, slots := 0, locals := 44 })
theorem mk_X6_get : MK M_X6_get 3 := ⟨gtb_in 673 (by decide +kernel) (by decide +kernel), gtb_in 76 (by decide +kernel) (by decide +kernel), ⟨by decide, by decide, by decide +kernel⟩, rfl, rfl⟩
theorem mv_X6_get : MV M_X6_get := ⟨gtb_in 671 (by decide +kernel) (by decide +kernel), gtb_in 672 (by decide +kernel) (by decide +kernel)⟩
def M_X6_copy : MI := (yX6_copy, cX6_copy, 8, some .int, { frames := 1, cells := 0, slots := 0, locals := 40 })
theorem mk_X6_copy : MK M_X6_copy 5 := ⟨gtb_in 678 (by decide +kernel) (by decide +kernel), gtb_in 76 (by decide +kernel) (by decide +kernel), ⟨by decide, by decide, by decide +kernel⟩, rfl, rfl⟩
theorem mv_X6_copy : MV M_X6_copy := ⟨gtb_in 676 (by decide +kernel) (by decide +kernel), gtb_in 677 (by decide +kernel) (by decide +kernel)⟩
def M_X6_write : MI := (yX6_write, cX6_write, 6, some .int, { frames := 3, cells := 0, slots := 0, locals := 69 })
theorem mk_X6_write : MK M_X6_write 2 := ⟨gtb_in 685 (by decide +kernel) (by decide +kernel), gtb_in 76 (by decide +kernel) (by decide +kernel), ⟨by decide, by decide, by decide +kernel⟩, rfl, rfl⟩
theorem mv_X6_write : MV M_X6_write := ⟨gtb_in 683 (by decide +kernel) (by decide +kernel), gtb_in 684 (by decide +kernel) (by decide +kernel)⟩
def M_X6_count : MI := (yX6_count, cX6_count, 2, some .int, { frames := 2, cells := 0, slots := 0, locals := 43 })
theorem mk_X6_count : MK M_X6_count 1 := ⟨gtb_in 691 (by decide +kernel) (by decide +kernel), gtb_in 76 (by decide +kernel) (by decide +kernel), ⟨by decide, by decide, by decide +kernel⟩, rfl, rfl⟩
theorem mv_X6_count : MV M_X6_count := ⟨gtb_in 689 (by decide +kernel) (by decide +kernel), gtb_in 690 (by decide +kernel) (by decide +kernel)⟩
def M_X6_digestShape : MI := (yX6_digestShape, cX6_digestShape, 8, some .long, { frames := 2, cells := 0, slots := 0, locals := 45 })
theorem mk_X6_digestShape : MK M_X6_digestShape 3 := ⟨gtb_in 710 (by decide +kernel) (by decide +kernel), gtb_in 76 (by decide +kernel) (by decide +kernel), ⟨by decide, by decide, by decide +kernel⟩, rfl, rfl⟩
theorem mv_X6_digestShape : MV M_X6_digestShape := ⟨gtb_in 709 (by decide +kernel) (by decide +kernel), gtb_in 28 (by decide +kernel) (by decide +kernel)⟩
def M_X6_digestParts : MI := (yX6_digestParts, cX6_digestParts, 7, some .long, { frames := 3, cells := 0, slots := 0, locals := 72 })
theorem mk_X6_digestParts : MK M_X6_digestParts 1 := ⟨gtb_in 705 (by decide +kernel) (by decide +kernel), gtb_in 76 (by decide +kernel) (by decide +kernel), ⟨by decide, by decide, by decide +kernel⟩, rfl, rfl⟩
theorem mv_X6_digestParts : MV M_X6_digestParts := ⟨gtb_in 704 (by decide +kernel) (by decide +kernel), gtb_in 27 (by decide +kernel) (by decide +kernel)⟩
def M_X6_digestBest : MI := (yX6_digestBest, cX6_digestBest, 6, some .long, { frames := 4, cells := 0, slots := 0, locals := 91 })
theorem mk_X6_digestBest : MK M_X6_digestBest 1 := ⟨gtb_in 715 (by decide +kernel) (by decide +kernel), gtb_in 76 (by decide +kernel) (by decide +kernel), ⟨by decide, by decide, by decide +kernel⟩, rfl, rfl⟩
theorem mv_X6_digestBest : MV M_X6_digestBest := ⟨gtb_in 714 (by decide +kernel) (by decide +kernel), gtb_in 29 (by decide +kernel) (by decide +kernel)⟩
def M_X6_digestWays : MI := (yX6_digestWays, cX6_digestWays, 7, some .long, { frames := 5, cells := 0, slots := 0, locals := 115 })
theorem mk_X6_digestWays : MK M_X6_digestWays 1 := ⟨gtb_in 720 (by decide +kernel) (by decide +kernel), gtb_in 76 (by decide +kernel) (by decide +kernel), ⟨by decide, by decide, by decide +kernel⟩, rfl, rfl⟩
theorem mv_X6_digestWays : MV M_X6_digestWays := ⟨gtb_in 719 (by decide +kernel) (by decide +kernel), gtb_in 30 (by decide +kernel) (by decide +kernel)⟩
def M_X6_digest : MI := (yX6_digest, cX6_digest, 4, some .long, { frames := 6, cells := 0, slots := 0, locals := 141 })
theorem mk_X6_digest : MK M_X6_digest 0 := ⟨gtb_in 697 (by decide +kernel) (by decide +kernel), gtb_in 76 (by decide +kernel) (by decide +kernel), ⟨by decide, by decide, by decide +kernel⟩, rfl, rfl⟩
theorem mv_X6_digest : MV M_X6_digest := ⟨gtb_in 695 (by decide +kernel) (by decide +kernel), gtb_in 696 (by decide +kernel) (by decide +kernel)⟩
def M_X7_in : MI := (yX7_in, cX7_in, 3, some .boolean, { frames := 0, cells := 0, slots := 0, locals := 0 })
theorem mk_X7_in : MK M_X7_in 3 := ⟨gtb_in 832 (by decide +kernel) (by decide +kernel), gtb_in 84 (by decide +kernel) (by decide +kernel), ⟨by decide, by decide, by decide +kernel⟩, rfl, rfl⟩
theorem ms_X7_in : Cond.static M_X7_in.1 ∈ gtb := gtb_in 831 (by decide +kernel) (by decide +kernel)
def M_X7_isIn : MI := (yX7_isIn, cX7_isIn, 2, some .boolean, { frames := 0, cells := 0, slots := 0, locals := 0 })
theorem mk_X7_isIn : MK M_X7_isIn 2 := ⟨gtb_in 995 (by decide +kernel) (by decide +kernel), gtb_in 84 (by decide +kernel) (by decide +kernel), ⟨by decide, by decide, by decide +kernel⟩, rfl, rfl⟩
theorem ms_X7_isIn : Cond.static M_X7_isIn.1 ∈ gtb := gtb_in 994 (by decide +kernel) (by decide +kernel)
def M_X7_type : MI := (yX7_type, cX7_type, 2, some .int, { frames := 1, cells := 0, slots := 0, locals := 22 })
theorem mk_X7_type : MK M_X7_type 1 := ⟨gtb_in 829 (by decide +kernel) (by decide +kernel), gtb_in 84 (by decide +kernel) (by decide +kernel), ⟨by decide, by decide, by decide +kernel⟩, rfl, rfl⟩
theorem mv_X7_type : MV M_X7_type := ⟨gtb_in 827 (by decide +kernel) (by decide +kernel), gtb_in 828 (by decide +kernel) (by decide +kernel)⟩
def M_X7_wipe : MI := (yX7_wipe, cX7_wipe, 2, some .int, { frames := 0, cells := 0, slots := 0, locals := 0 })
theorem mk_X7_wipe : MK M_X7_wipe 0 := ⟨gtb_in 836 (by decide +kernel) (by decide +kernel), gtb_in 84 (by decide +kernel) (by decide +kernel), ⟨by decide, by decide, by decide +kernel⟩, rfl, rfl⟩
theorem mv_X7_wipe : MV M_X7_wipe := ⟨gtb_in 834 (by decide +kernel) (by decide +kernel), gtb_in 835 (by decide +kernel) (by decide +kernel)⟩
def M_X7_undo : MI := (yX7_undo, cX7_undo, 1, some .int, { frames := 0, cells := 0, slots := 0, locals := 0 })
theorem mk_X7_undo : MK M_X7_undo 0 := ⟨gtb_in 840 (by decide +kernel) (by decide +kernel), gtb_in 84 (by decide +kernel) (by decide +kernel), ⟨by decide, by decide, by decide +kernel⟩, rfl, rfl⟩
theorem mv_X7_undo : MV M_X7_undo := ⟨gtb_in 838 (by decide +kernel) (by decide +kernel), gtb_in 839 (by decide +kernel) (by decide +kernel)⟩
def M_X7_width : MI := (yX7_width, cX7_width, 3, some .int, { frames := 1, cells := 0, slots := 0, locals := 22 })
theorem mk_X7_width : MK M_X7_width 1 := ⟨gtb_in 844 (by decide +kernel) (by decide +kernel), gtb_in 84 (by decide +kernel) (by decide +kernel), ⟨by decide, by decide, by decide +kernel⟩, rfl, rfl⟩
theorem mv_X7_width : MV M_X7_width := ⟨gtb_in 842 (by decide +kernel) (by decide +kernel), gtb_in 843 (by decide +kernel) (by decide +kernel)⟩
def M_X7_isSheet : MI := (yX7_isSheet, cX7_isSheet, 1, some .boolean, { frames := 1, cells := 0, slots := 0, locals := 22 })
theorem mk_X7_isSheet : MK M_X7_isSheet 1 := ⟨gtb_in 851 (by decide +kernel) (by decide +kernel), gtb_in 84 (by decide +kernel) (by decide +kernel), ⟨by decide, by decide, by decide +kernel⟩, rfl, rfl⟩
theorem ms_X7_isSheet : Cond.static M_X7_isSheet.1 ∈ gtb := gtb_in 850 (by decide +kernel) (by decide +kernel)
def M_X7_meets : MI := (yX7_meets, cX7_meets, 2, some .int, { frames := 0, cells := 0, slots := 0, locals := 0 })
theorem mk_X7_meets : MK M_X7_meets 1 := ⟨gtb_in 855 (by decide +kernel) (by decide +kernel), gtb_in 84 (by decide +kernel) (by decide +kernel), ⟨by decide, by decide, by decide +kernel⟩, rfl, rfl⟩
theorem mv_X7_meets : MV M_X7_meets := ⟨gtb_in 854 (by decide +kernel) (by decide +kernel), gtb_in 31 (by decide +kernel) (by decide +kernel)⟩
def M_X7_read : MI := (yX7_read, cX7_read, 3, some .int, { frames := 2, cells := 0, slots := 0, locals := 43 })
theorem mk_X7_read : MK M_X7_read 1 := ⟨gtb_in 848 (by decide +kernel) (by decide +kernel), gtb_in 84 (by decide +kernel) (by decide +kernel), ⟨by decide, by decide, by decide +kernel⟩, rfl, rfl⟩
theorem mv_X7_read : MV M_X7_read := ⟨gtb_in 846 (by decide +kernel) (by decide +kernel), gtb_in 847 (by decide +kernel) (by decide +kernel)⟩
def M_X7_kindOf : MI := (yX7_kindOf, cX7_kindOf, 1, some .int, { frames := 1, cells := 0, slots := 0, locals := 22 })
theorem mk_X7_kindOf : MK M_X7_kindOf 1 := ⟨gtb_in 875 (by decide +kernel) (by decide +kernel), gtb_in 84 (by decide +kernel) (by decide +kernel), ⟨by decide, by decide, by decide +kernel⟩, rfl, rfl⟩
theorem ms_X7_kindOf : Cond.static M_X7_kindOf.1 ∈ gtb := gtb_in 874 (by decide +kernel) (by decide +kernel)
def M_X7_isTwofold : MI := (yX7_isTwofold, cX7_isTwofold, 1, some .boolean, { frames := 1, cells := 0, slots := 0, locals := 22 })
theorem mk_X7_isTwofold : MK M_X7_isTwofold 1 := ⟨gtb_in 878 (by decide +kernel) (by decide +kernel), gtb_in 84 (by decide +kernel) (by decide +kernel), ⟨by decide, by decide, by decide +kernel⟩, rfl, rfl⟩
theorem ms_X7_isTwofold : Cond.static M_X7_isTwofold.1 ∈ gtb := gtb_in 877 (by decide +kernel) (by decide +kernel)
def M_X7_readsText : MI := (yX7_readsText, cX7_readsText, 5, some .int, { frames := 2, cells := 0, slots := 0, locals := 42 })
theorem mk_X7_readsText : MK M_X7_readsText 0 := ⟨gtb_in 872 (by decide +kernel) (by decide +kernel), gtb_in 84 (by decide +kernel) (by decide +kernel), ⟨by decide, by decide, by decide +kernel⟩, rfl, rfl⟩
theorem mv_X7_readsText : MV M_X7_readsText := ⟨gtb_in 871 (by decide +kernel) (by decide +kernel), gtb_in 34 (by decide +kernel) (by decide +kernel)⟩
def M_X7_reads : MI := (yX7_reads, cX7_reads, 4, none, { frames := 3, cells := 0, slots := 0, locals := 66 })
theorem mk_X7_reads : MK M_X7_reads 0 := ⟨gtb_in 868 (by decide +kernel) (by decide +kernel), gtb_in 84 (by decide +kernel) (by decide +kernel), ⟨by decide, by decide, by decide +kernel⟩, rfl, rfl⟩
theorem mv_X7_reads : MV M_X7_reads := ⟨gtb_in 867 (by decide +kernel) (by decide +kernel), gtb_in 33 (by decide +kernel) (by decide +kernel)⟩
def M_X7_faultOf : MI := (yX7_faultOf, cX7_faultOf, 1, some .int, { frames := 4, cells := 0, slots := 0, locals := 89 })
theorem mk_X7_faultOf : MK M_X7_faultOf 0 := ⟨gtb_in 864 (by decide +kernel) (by decide +kernel), gtb_in 84 (by decide +kernel) (by decide +kernel), ⟨by decide, by decide, by decide +kernel⟩, rfl, rfl⟩
theorem mv_X7_faultOf : MV M_X7_faultOf := ⟨gtb_in 863 (by decide +kernel) (by decide +kernel), gtb_in 32 (by decide +kernel) (by decide +kernel)⟩
def M_X7_fault : MI := (yX7_fault, cX7_fault, 1, some .int, { frames := 5, cells := 0, slots := 0, locals := 109 })
theorem mk_X7_fault : MK M_X7_fault 0 := ⟨gtb_in 860 (by decide +kernel) (by decide +kernel), gtb_in 84 (by decide +kernel) (by decide +kernel), ⟨by decide, by decide, by decide +kernel⟩, rfl, rfl⟩
theorem mv_X7_fault : MV M_X7_fault := ⟨gtb_in 858 (by decide +kernel) (by decide +kernel), gtb_in 859 (by decide +kernel) (by decide +kernel)⟩
def M_X7_shape : MI := (yX7_shape, cX7_shape, 4, some .int, { frames := 0, cells := 0, slots := 0, locals := 0 })
theorem mk_X7_shape : MK M_X7_shape 4 := ⟨gtb_in 905 (by decide +kernel) (by decide +kernel), gtb_in 84 (by decide +kernel) (by decide +kernel), ⟨by decide, by decide, by decide +kernel⟩, rfl, rfl⟩
theorem ms_X7_shape : Cond.static M_X7_shape.1 ∈ gtb := gtb_in 904 (by decide +kernel) (by decide +kernel)
def M_X7_lines : MI := (yX7_lines, cX7_lines, 1, some .int, { frames := 0, cells := 0, slots := 0, locals := 0 })
theorem mk_X7_lines : MK M_X7_lines 1 := ⟨gtb_in 915 (by decide +kernel) (by decide +kernel), gtb_in 84 (by decide +kernel) (by decide +kernel), ⟨by decide, by decide, by decide +kernel⟩, rfl, rfl⟩
theorem ms_X7_lines : Cond.static M_X7_lines.1 ∈ gtb := gtb_in 914 (by decide +kernel) (by decide +kernel)
def M_X7_last : MI := (yX7_last, cX7_last, 1, some .int, { frames := 0, cells := 0, slots := 0, locals := 0 })
theorem mk_X7_last : MK M_X7_last 1 := ⟨gtb_in 921 (by decide +kernel) (by decide +kernel), gtb_in 84 (by decide +kernel) (by decide +kernel), ⟨by decide, by decide, by decide +kernel⟩, rfl, rfl⟩
theorem ms_X7_last : Cond.static M_X7_last.1 ∈ gtb := gtb_in 920 (by decide +kernel) (by decide +kernel)
def M_X7_most : MI := (yX7_most, cX7_most, 1, some .int, { frames := 0, cells := 0, slots := 0, locals := 0 })
theorem mk_X7_most : MK M_X7_most 1 := ⟨gtb_in 912 (by decide +kernel) (by decide +kernel), gtb_in 84 (by decide +kernel) (by decide +kernel), ⟨by decide, by decide, by decide +kernel⟩, rfl, rfl⟩
theorem ms_X7_most : Cond.static M_X7_most.1 ∈ gtb := gtb_in 911 (by decide +kernel) (by decide +kernel)
def M_X7_wayOf : MI := (yX7_wayOf, cX7_wayOf, 1, some .int, { frames := 0, cells := 0, slots := 0, locals := 0 })
theorem mk_X7_wayOf : MK M_X7_wayOf 1 := ⟨gtb_in 935 (by decide +kernel) (by decide +kernel), gtb_in 84 (by decide +kernel) (by decide +kernel), ⟨by decide, by decide, by decide +kernel⟩, rfl, rfl⟩
theorem ms_X7_wayOf : Cond.static M_X7_wayOf.1 ∈ gtb := gtb_in 934 (by decide +kernel) (by decide +kernel)
def M_X7_max : MI := (yX7_max, cX7_max, 2, some .int, { frames := 0, cells := 0, slots := 0, locals := 0 })
theorem mk_X7_max : MK M_X7_max 2 := ⟨gtb_in 938 (by decide +kernel) (by decide +kernel), gtb_in 84 (by decide +kernel) (by decide +kernel), ⟨by decide, by decide, by decide +kernel⟩, rfl, rfl⟩
theorem ms_X7_max : Cond.static M_X7_max.1 ∈ gtb := gtb_in 937 (by decide +kernel) (by decide +kernel)
def M_X7_both : MI := (yX7_both, cX7_both, 4, some .int, { frames := 1, cells := 0, slots := 0, locals := 23 })
theorem mk_X7_both : MK M_X7_both 3 := ⟨gtb_in 932 (by decide +kernel) (by decide +kernel), gtb_in 84 (by decide +kernel) (by decide +kernel), ⟨by decide, by decide, by decide +kernel⟩, rfl, rfl⟩
theorem ms_X7_both : Cond.static M_X7_both.1 ∈ gtb := gtb_in 931 (by decide +kernel) (by decide +kernel)
def M_X7_pushed : MI := (yX7_pushed, cX7_pushed, 2, some .int, { frames := 1, cells := 0, slots := 0, locals := 23 })
theorem mk_X7_pushed : MK M_X7_pushed 2 := ⟨gtb_in 941 (by decide +kernel) (by decide +kernel), gtb_in 84 (by decide +kernel) (by decide +kernel), ⟨by decide, by decide, by decide +kernel⟩, rfl, rfl⟩
theorem ms_X7_pushed : Cond.static M_X7_pushed.1 ∈ gtb := gtb_in 940 (by decide +kernel) (by decide +kernel)
def M_X7_isNoGreater : MI := (yX7_isNoGreater, cX7_isNoGreater, 2, some .boolean, { frames := 1, cells := 0, slots := 0, locals := 20 })
theorem mk_X7_isNoGreater : MK M_X7_isNoGreater 2 := ⟨gtb_in 918 (by decide +kernel) (by decide +kernel), gtb_in 84 (by decide +kernel) (by decide +kernel), ⟨by decide, by decide, by decide +kernel⟩, rfl, rfl⟩
theorem ms_X7_isNoGreater : Cond.static M_X7_isNoGreater.1 ∈ gtb := gtb_in 917 (by decide +kernel) (by decide +kernel)
def M_X7_tries : MI := (yX7_tries, cX7_tries, 7, none, { frames := 2, cells := 0, slots := 0, locals := 41 })
theorem mk_X7_tries : MK M_X7_tries 2 := ⟨gtb_in 909 (by decide +kernel) (by decide +kernel), gtb_in 84 (by decide +kernel) (by decide +kernel), ⟨by decide, by decide, by decide +kernel⟩, rfl, rfl⟩
theorem mv_X7_tries : MV M_X7_tries := ⟨gtb_in 908 (by decide +kernel) (by decide +kernel), gtb_in 40 (by decide +kernel) (by decide +kernel)⟩
def M_X7_triesBoth : MI := (yX7_triesBoth, cX7_triesBoth, 6, none, { frames := 3, cells := 0, slots := 0, locals := 67 })
theorem mk_X7_triesBoth : MK M_X7_triesBoth 1 := ⟨gtb_in 929 (by decide +kernel) (by decide +kernel), gtb_in 84 (by decide +kernel) (by decide +kernel), ⟨by decide, by decide, by decide +kernel⟩, rfl, rfl⟩
theorem mv_X7_triesBoth : MV M_X7_triesBoth := ⟨gtb_in 928 (by decide +kernel) (by decide +kernel), gtb_in 42 (by decide +kernel) (by decide +kernel)⟩
def M_X7_triesChoice : MI := (yX7_triesChoice, cX7_triesChoice, 4, none, { frames := 3, cells := 0, slots := 0, locals := 67 })
theorem mk_X7_triesChoice : MK M_X7_triesChoice 1 := ⟨gtb_in 925 (by decide +kernel) (by decide +kernel), gtb_in 84 (by decide +kernel) (by decide +kernel), ⟨by decide, by decide, by decide +kernel⟩, rfl, rfl⟩
theorem mv_X7_triesChoice : MV M_X7_triesChoice := ⟨gtb_in 924 (by decide +kernel) (by decide +kernel), gtb_in 41 (by decide +kernel) (by decide +kernel)⟩
def M_X7_findsFronts : MI := (yX7_findsFronts, cX7_findsFronts, 4, none, { frames := 4, cells := 0, slots := 0, locals := 92 })
theorem mk_X7_findsFronts : MK M_X7_findsFronts 1 := ⟨gtb_in 902 (by decide +kernel) (by decide +kernel), gtb_in 84 (by decide +kernel) (by decide +kernel), ⟨by decide, by decide, by decide +kernel⟩, rfl, rfl⟩
theorem mv_X7_findsFronts : MV M_X7_findsFronts := ⟨gtb_in 901 (by decide +kernel) (by decide +kernel), gtb_in 39 (by decide +kernel) (by decide +kernel)⟩
def M_X7_frontsTold : MI := (yX7_frontsTold, cX7_frontsTold, 1, none, { frames := 5, cells := 0, slots := 0, locals := 115 })
theorem mk_X7_frontsTold : MK M_X7_frontsTold 0 := ⟨gtb_in 898 (by decide +kernel) (by decide +kernel), gtb_in 84 (by decide +kernel) (by decide +kernel), ⟨by decide, by decide, by decide +kernel⟩, rfl, rfl⟩
theorem mv_X7_frontsTold : MV M_X7_frontsTold := ⟨gtb_in 897 (by decide +kernel) (by decide +kernel), gtb_in 38 (by decide +kernel) (by decide +kernel)⟩
def M_X7_isPart : MI := (yX7_isPart, cX7_isPart, 2, some .boolean, { frames := 4, cells := 0, slots := 0, locals := 89 })
theorem mk_X7_isPart : MK M_X7_isPart 1 := ⟨gtb_in 886 (by decide +kernel) (by decide +kernel), gtb_in 84 (by decide +kernel) (by decide +kernel), ⟨by decide, by decide, by decide +kernel⟩, rfl, rfl⟩
theorem mv_X7_isPart : MV M_X7_isPart := ⟨gtb_in 885 (by decide +kernel) (by decide +kernel), gtb_in 35 (by decide +kernel) (by decide +kernel)⟩
def M_X7_manyOf : MI := (yX7_manyOf, cX7_manyOf, 2, some .int, { frames := 6, cells := 0, slots := 0, locals := 135 })
theorem mk_X7_manyOf : MK M_X7_manyOf 1 := ⟨gtb_in 894 (by decide +kernel) (by decide +kernel), gtb_in 84 (by decide +kernel) (by decide +kernel), ⟨by decide, by decide, by decide +kernel⟩, rfl, rfl⟩
theorem mv_X7_manyOf : MV M_X7_manyOf := ⟨gtb_in 893 (by decide +kernel) (by decide +kernel), gtb_in 37 (by decide +kernel) (by decide +kernel)⟩
def M_X7_partOf : MI := (yX7_partOf, cX7_partOf, 3, some .int, { frames := 7, cells := 0, slots := 0, locals := 156 })
theorem mk_X7_partOf : MK M_X7_partOf 2 := ⟨gtb_in 890 (by decide +kernel) (by decide +kernel), gtb_in 84 (by decide +kernel) (by decide +kernel), ⟨by decide, by decide, by decide +kernel⟩, rfl, rfl⟩
theorem mv_X7_partOf : MV M_X7_partOf := ⟨gtb_in 889 (by decide +kernel) (by decide +kernel), gtb_in 36 (by decide +kernel) (by decide +kernel)⟩
def M_X7_part : MI := (yX7_part, cX7_part, 3, some .int, { frames := 8, cells := 0, slots := 0, locals := 178 })
theorem mk_X7_part : MK M_X7_part 2 := ⟨gtb_in 882 (by decide +kernel) (by decide +kernel), gtb_in 84 (by decide +kernel) (by decide +kernel), ⟨by decide, by decide, by decide +kernel⟩, rfl, rfl⟩
theorem mv_X7_part : MV M_X7_part := ⟨gtb_in 880 (by decide +kernel) (by decide +kernel), gtb_in 881 (by decide +kernel) (by decide +kernel)⟩
def M_X7_tellOf : MI := (yX7_tellOf, cX7_tellOf, 2, some .int, { frames := 1, cells := 0, slots := 0, locals := 20 })
theorem mk_X7_tellOf : MK M_X7_tellOf 2 := ⟨gtb_in 952 (by decide +kernel) (by decide +kernel), gtb_in 84 (by decide +kernel) (by decide +kernel), ⟨by decide, by decide, by decide +kernel⟩, rfl, rfl⟩
theorem ms_X7_tellOf : Cond.static M_X7_tellOf.1 ∈ gtb := gtb_in 951 (by decide +kernel) (by decide +kernel)
def M_X7_frontierOf : MI := (yX7_frontierOf, cX7_frontierOf, 4, some .int, { frames := 6, cells := 0, slots := 0, locals := 135 })
theorem mk_X7_frontierOf : MK M_X7_frontierOf 3 := ⟨gtb_in 949 (by decide +kernel) (by decide +kernel), gtb_in 84 (by decide +kernel) (by decide +kernel), ⟨by decide, by decide, by decide +kernel⟩, rfl, rfl⟩
theorem mv_X7_frontierOf : MV M_X7_frontierOf := ⟨gtb_in 948 (by decide +kernel) (by decide +kernel), gtb_in 43 (by decide +kernel) (by decide +kernel)⟩
def M_X7_frontier : MI := (yX7_frontier, cX7_frontier, 4, some .int, { frames := 7, cells := 0, slots := 0, locals := 158 })
theorem mk_X7_frontier : MK M_X7_frontier 3 := ⟨gtb_in 945 (by decide +kernel) (by decide +kernel), gtb_in 84 (by decide +kernel) (by decide +kernel), ⟨by decide, by decide, by decide +kernel⟩, rfl, rfl⟩
theorem mv_X7_frontier : MV M_X7_frontier := ⟨gtb_in 943 (by decide +kernel) (by decide +kernel), gtb_in 944 (by decide +kernel) (by decide +kernel)⟩
def M_X7_triedOf : MI := (yX7_triedOf, cX7_triedOf, 2, some .int, { frames := 6, cells := 0, slots := 0, locals := 135 })
theorem mk_X7_triedOf : MK M_X7_triedOf 1 := ⟨gtb_in 960 (by decide +kernel) (by decide +kernel), gtb_in 84 (by decide +kernel) (by decide +kernel), ⟨by decide, by decide, by decide +kernel⟩, rfl, rfl⟩
theorem mv_X7_triedOf : MV M_X7_triedOf := ⟨gtb_in 959 (by decide +kernel) (by decide +kernel), gtb_in 44 (by decide +kernel) (by decide +kernel)⟩
def M_X7_tried : MI := (yX7_tried, cX7_tried, 2, some .int, { frames := 7, cells := 0, slots := 0, locals := 156 })
theorem mk_X7_tried : MK M_X7_tried 1 := ⟨gtb_in 956 (by decide +kernel) (by decide +kernel), gtb_in 84 (by decide +kernel) (by decide +kernel), ⟨by decide, by decide, by decide +kernel⟩, rfl, rfl⟩
theorem mv_X7_tried : MV M_X7_tried := ⟨gtb_in 954 (by decide +kernel) (by decide +kernel), gtb_in 955 (by decide +kernel) (by decide +kernel)⟩
def M_X7_isAhead : MI := (yX7_isAhead, cX7_isAhead, 7, some .boolean, { frames := 1, cells := 0, slots := 0, locals := 20 })
theorem mk_X7_isAhead : MK M_X7_isAhead 2 := ⟨gtb_in 976 (by decide +kernel) (by decide +kernel), gtb_in 84 (by decide +kernel) (by decide +kernel), ⟨by decide, by decide, by decide +kernel⟩, rfl, rfl⟩
theorem mv_X7_isAhead : MV M_X7_isAhead := ⟨gtb_in 975 (by decide +kernel) (by decide +kernel), gtb_in 47 (by decide +kernel) (by decide +kernel)⟩
def M_X7_findsBest : MI := (yX7_findsBest, cX7_findsBest, 2, none, { frames := 6, cells := 0, slots := 0, locals := 135 })
theorem mk_X7_findsBest : MK M_X7_findsBest 0 := ⟨gtb_in 972 (by decide +kernel) (by decide +kernel), gtb_in 84 (by decide +kernel) (by decide +kernel), ⟨by decide, by decide, by decide +kernel⟩, rfl, rfl⟩
theorem mv_X7_findsBest : MV M_X7_findsBest := ⟨gtb_in 971 (by decide +kernel) (by decide +kernel), gtb_in 46 (by decide +kernel) (by decide +kernel)⟩
def M_X7_bestOf : MI := (yX7_bestOf, cX7_bestOf, 2, some .int, { frames := 7, cells := 0, slots := 0, locals := 156 })
theorem mk_X7_bestOf : MK M_X7_bestOf 1 := ⟨gtb_in 968 (by decide +kernel) (by decide +kernel), gtb_in 84 (by decide +kernel) (by decide +kernel), ⟨by decide, by decide, by decide +kernel⟩, rfl, rfl⟩
theorem mv_X7_bestOf : MV M_X7_bestOf := ⟨gtb_in 967 (by decide +kernel) (by decide +kernel), gtb_in 45 (by decide +kernel) (by decide +kernel)⟩
def M_X7_best : MI := (yX7_best, cX7_best, 2, some .int, { frames := 8, cells := 0, slots := 0, locals := 177 })
theorem mk_X7_best : MK M_X7_best 1 := ⟨gtb_in 964 (by decide +kernel) (by decide +kernel), gtb_in 84 (by decide +kernel) (by decide +kernel), ⟨by decide, by decide, by decide +kernel⟩, rfl, rfl⟩
theorem mv_X7_best : MV M_X7_best := ⟨gtb_in 962 (by decide +kernel) (by decide +kernel), gtb_in 963 (by decide +kernel) (by decide +kernel)⟩
def M_X7_shapeBy : MI := (yX7_shapeBy, cX7_shapeBy, 6, some .int, { frames := 2, cells := 0, slots := 0, locals := 46 })
theorem mk_X7_shapeBy : MK M_X7_shapeBy 2 := ⟨gtb_in 992 (by decide +kernel) (by decide +kernel), gtb_in 84 (by decide +kernel) (by decide +kernel), ⟨by decide, by decide, by decide +kernel⟩, rfl, rfl⟩
theorem mv_X7_shapeBy : MV M_X7_shapeBy := ⟨gtb_in 991 (by decide +kernel) (by decide +kernel), gtb_in 50 (by decide +kernel) (by decide +kernel)⟩
def M_X7_shapeOf : MI := (yX7_shapeOf, cX7_shapeOf, 3, some .int, { frames := 3, cells := 0, slots := 0, locals := 71 })
theorem mk_X7_shapeOf : MK M_X7_shapeOf 1 := ⟨gtb_in 988 (by decide +kernel) (by decide +kernel), gtb_in 84 (by decide +kernel) (by decide +kernel), ⟨by decide, by decide, by decide +kernel⟩, rfl, rfl⟩
theorem mv_X7_shapeOf : MV M_X7_shapeOf := ⟨gtb_in 987 (by decide +kernel) (by decide +kernel), gtb_in 49 (by decide +kernel) (by decide +kernel)⟩
def M_X7_findsWays : MI := (yX7_findsWays, cX7_findsWays, 2, none, { frames := 4, cells := 0, slots := 0, locals := 93 })
theorem mk_X7_findsWays : MK M_X7_findsWays 0 := ⟨gtb_in 1035 (by decide +kernel) (by decide +kernel), gtb_in 84 (by decide +kernel) (by decide +kernel), ⟨by decide, by decide, by decide +kernel⟩, rfl, rfl⟩
theorem mv_X7_findsWays : MV M_X7_findsWays := ⟨gtb_in 1034 (by decide +kernel) (by decide +kernel), gtb_in 58 (by decide +kernel) (by decide +kernel)⟩
def M_X7_wayFor : MI := (yX7_wayFor, cX7_wayFor, 4, some .int, { frames := 4, cells := 0, slots := 0, locals := 93 })
theorem mk_X7_wayFor : MK M_X7_wayFor 2 := ⟨gtb_in 984 (by decide +kernel) (by decide +kernel), gtb_in 84 (by decide +kernel) (by decide +kernel), ⟨by decide, by decide, by decide +kernel⟩, rfl, rfl⟩
theorem mv_X7_wayFor : MV M_X7_wayFor := ⟨gtb_in 983 (by decide +kernel) (by decide +kernel), gtb_in 48 (by decide +kernel) (by decide +kernel)⟩
def M_X7_way : MI := (yX7_way, cX7_way, 3, some .int, { frames := 5, cells := 0, slots := 0, locals := 116 })
theorem mk_X7_way : MK M_X7_way 2 := ⟨gtb_in 980 (by decide +kernel) (by decide +kernel), gtb_in 84 (by decide +kernel) (by decide +kernel), ⟨by decide, by decide, by decide +kernel⟩, rfl, rfl⟩
theorem mv_X7_way : MV M_X7_way := ⟨gtb_in 978 (by decide +kernel) (by decide +kernel), gtb_in 979 (by decide +kernel) (by decide +kernel)⟩
def M_X7_puts : MI := (yX7_puts, cX7_puts, 4, none, { frames := 0, cells := 0, slots := 0, locals := 0 })
theorem mk_X7_puts : MK M_X7_puts 3 := ⟨gtb_in 1015 (by decide +kernel) (by decide +kernel), gtb_in 84 (by decide +kernel) (by decide +kernel), ⟨by decide, by decide, by decide +kernel⟩, rfl, rfl⟩
theorem mv_X7_puts : MV M_X7_puts := ⟨gtb_in 1014 (by decide +kernel) (by decide +kernel), gtb_in 54 (by decide +kernel) (by decide +kernel)⟩
def M_X7_setsBelow : MI := (yX7_setsBelow, cX7_setsBelow, 5, none, { frames := 1, cells := 0, slots := 0, locals := 23 })
theorem mk_X7_setsBelow : MK M_X7_setsBelow 1 := ⟨gtb_in 1011 (by decide +kernel) (by decide +kernel), gtb_in 84 (by decide +kernel) (by decide +kernel), ⟨by decide, by decide, by decide +kernel⟩, rfl, rfl⟩
theorem mv_X7_setsBelow : MV M_X7_setsBelow := ⟨gtb_in 1010 (by decide +kernel) (by decide +kernel), gtb_in 53 (by decide +kernel) (by decide +kernel)⟩
def M_X7_sets : MI := (yX7_sets, cX7_sets, 2, none, { frames := 7, cells := 0, slots := 0, locals := 156 })
theorem mk_X7_sets : MK M_X7_sets 0 := ⟨gtb_in 1007 (by decide +kernel) (by decide +kernel), gtb_in 84 (by decide +kernel) (by decide +kernel), ⟨by decide, by decide, by decide +kernel⟩, rfl, rfl⟩
theorem mv_X7_sets : MV M_X7_sets := ⟨gtb_in 1006 (by decide +kernel) (by decide +kernel), gtb_in 52 (by decide +kernel) (by decide +kernel)⟩
def M_X7_columnsIn : MI := (yX7_columnsIn, cX7_columnsIn, 5, some .int, { frames := 1, cells := 0, slots := 0, locals := 21 })
theorem mk_X7_columnsIn : MK M_X7_columnsIn 1 := ⟨gtb_in 1019 (by decide +kernel) (by decide +kernel), gtb_in 84 (by decide +kernel) (by decide +kernel), ⟨by decide, by decide, by decide +kernel⟩, rfl, rfl⟩
theorem mv_X7_columnsIn : MV M_X7_columnsIn := ⟨gtb_in 1018 (by decide +kernel) (by decide +kernel), gtb_in 55 (by decide +kernel) (by decide +kernel)⟩
def M_X7_byteIn : MI := (yX7_byteIn, cX7_byteIn, 6, some .int, { frames := 1, cells := 0, slots := 0, locals := 22 })
theorem mk_X7_byteIn : MK M_X7_byteIn 2 := ⟨gtb_in 1023 (by decide +kernel) (by decide +kernel), gtb_in 84 (by decide +kernel) (by decide +kernel), ⟨by decide, by decide, by decide +kernel⟩, rfl, rfl⟩
theorem mv_X7_byteIn : MV M_X7_byteIn := ⟨gtb_in 1022 (by decide +kernel) (by decide +kernel), gtb_in 56 (by decide +kernel) (by decide +kernel)⟩
def M_X7_lineOf : MI := (yX7_lineOf, cX7_lineOf, 4, some .int, { frames := 8, cells := 0, slots := 0, locals := 177 })
theorem mk_X7_lineOf : MK M_X7_lineOf 2 := ⟨gtb_in 1003 (by decide +kernel) (by decide +kernel), gtb_in 84 (by decide +kernel) (by decide +kernel), ⟨by decide, by decide, by decide +kernel⟩, rfl, rfl⟩
theorem mv_X7_lineOf : MV M_X7_lineOf := ⟨gtb_in 1002 (by decide +kernel) (by decide +kernel), gtb_in 51 (by decide +kernel) (by decide +kernel)⟩
def M_X7_line : MI := (yX7_line, cX7_line, 3, some .int, { frames := 9, cells := 0, slots := 0, locals := 200 })
theorem mk_X7_line : MK M_X7_line 2 := ⟨gtb_in 999 (by decide +kernel) (by decide +kernel), gtb_in 84 (by decide +kernel) (by decide +kernel), ⟨by decide, by decide, by decide +kernel⟩, rfl, rfl⟩
theorem mv_X7_line : MV M_X7_line := ⟨gtb_in 997 (by decide +kernel) (by decide +kernel), gtb_in 998 (by decide +kernel) (by decide +kernel)⟩
def M_X7_isAllowed : MI := (yX7_isAllowed, cX7_isAllowed, 3, some .boolean, { frames := 1, cells := 0, slots := 0, locals := 20 })
theorem mk_X7_isAllowed : MK M_X7_isAllowed 2 := ⟨gtb_in 1043 (by decide +kernel) (by decide +kernel), gtb_in 84 (by decide +kernel) (by decide +kernel), ⟨by decide, by decide, by decide +kernel⟩, rfl, rfl⟩
theorem mv_X7_isAllowed : MV M_X7_isAllowed := ⟨gtb_in 1042 (by decide +kernel) (by decide +kernel), gtb_in 60 (by decide +kernel) (by decide +kernel)⟩
def M_X7_isAny : MI := (yX7_isAny, cX7_isAny, 5, some .boolean, { frames := 2, cells := 0, slots := 0, locals := 42 })
theorem mk_X7_isAny : MK M_X7_isAny 2 := ⟨gtb_in 1039 (by decide +kernel) (by decide +kernel), gtb_in 84 (by decide +kernel) (by decide +kernel), ⟨by decide, by decide, by decide +kernel⟩, rfl, rfl⟩
theorem mv_X7_isAny : MV M_X7_isAny := ⟨gtb_in 1038 (by decide +kernel) (by decide +kernel), gtb_in 59 (by decide +kernel) (by decide +kernel)⟩
def M_X7_hasteOf : MI := (yX7_hasteOf, cX7_hasteOf, 4, some .int, { frames := 5, cells := 0, slots := 0, locals := 114 })
theorem mk_X7_hasteOf : MK M_X7_hasteOf 1 := ⟨gtb_in 1031 (by decide +kernel) (by decide +kernel), gtb_in 84 (by decide +kernel) (by decide +kernel), ⟨by decide, by decide, by decide +kernel⟩, rfl, rfl⟩
theorem mv_X7_hasteOf : MV M_X7_hasteOf := ⟨gtb_in 1030 (by decide +kernel) (by decide +kernel), gtb_in 57 (by decide +kernel) (by decide +kernel)⟩
def M_X7_haste : MI := (yX7_haste, cX7_haste, 2, some .int, { frames := 6, cells := 0, slots := 0, locals := 137 })
theorem mk_X7_haste : MK M_X7_haste 1 := ⟨gtb_in 1027 (by decide +kernel) (by decide +kernel), gtb_in 84 (by decide +kernel) (by decide +kernel), ⟨by decide, by decide, by decide +kernel⟩, rfl, rfl⟩
theorem mv_X7_haste : MV M_X7_haste := ⟨gtb_in 1025 (by decide +kernel) (by decide +kernel), gtb_in 1026 (by decide +kernel) (by decide +kernel)⟩
def M_X7_leastMost : MI := (yX7_leastMost, cX7_leastMost, 4, some .int, { frames := 1, cells := 0, slots := 0, locals := 20 })
theorem mk_X7_leastMost : MK M_X7_leastMost 0 := ⟨gtb_in 1055 (by decide +kernel) (by decide +kernel), gtb_in 84 (by decide +kernel) (by decide +kernel), ⟨by decide, by decide, by decide +kernel⟩, rfl, rfl⟩
theorem mv_X7_leastMost : MV M_X7_leastMost := ⟨gtb_in 1054 (by decide +kernel) (by decide +kernel), gtb_in 62 (by decide +kernel) (by decide +kernel)⟩
def M_X7_enoughOf : MI := (yX7_enoughOf, cX7_enoughOf, 2, some .int, { frames := 5, cells := 0, slots := 0, locals := 114 })
theorem mk_X7_enoughOf : MK M_X7_enoughOf 0 := ⟨gtb_in 1051 (by decide +kernel) (by decide +kernel), gtb_in 84 (by decide +kernel) (by decide +kernel), ⟨by decide, by decide, by decide +kernel⟩, rfl, rfl⟩
theorem mv_X7_enoughOf : MV M_X7_enoughOf := ⟨gtb_in 1050 (by decide +kernel) (by decide +kernel), gtb_in 61 (by decide +kernel) (by decide +kernel)⟩
def M_X7_enough : MI := (yX7_enough, cX7_enough, 1, some .int, { frames := 6, cells := 0, slots := 0, locals := 135 })
theorem mk_X7_enough : MK M_X7_enough 0 := ⟨gtb_in 1047 (by decide +kernel) (by decide +kernel), gtb_in 84 (by decide +kernel) (by decide +kernel), ⟨by decide, by decide, by decide +kernel⟩, rfl, rfl⟩
theorem mv_X7_enough : MV M_X7_enough := ⟨gtb_in 1045 (by decide +kernel) (by decide +kernel), gtb_in 1046 (by decide +kernel) (by decide +kernel)⟩
def M_X7_fewest : MI := (yX7_fewest, cX7_fewest, 6, some .int, { frames := 2, cells := 0, slots := 0, locals := 42 })
theorem mk_X7_fewest : MK M_X7_fewest 2 := ⟨gtb_in 1067 (by decide +kernel) (by decide +kernel), gtb_in 84 (by decide +kernel) (by decide +kernel), ⟨by decide, by decide, by decide +kernel⟩, rfl, rfl⟩
theorem mv_X7_fewest : MV M_X7_fewest := ⟨gtb_in 1066 (by decide +kernel) (by decide +kernel), gtb_in 64 (by decide +kernel) (by decide +kernel)⟩
def M_X7_shrinksOf : MI := (yX7_shrinksOf, cX7_shrinksOf, 7, some .int, { frames := 5, cells := 0, slots := 0, locals := 114 })
theorem mk_X7_shrinksOf : MK M_X7_shrinksOf 1 := ⟨gtb_in 1063 (by decide +kernel) (by decide +kernel), gtb_in 84 (by decide +kernel) (by decide +kernel), ⟨by decide, by decide, by decide +kernel⟩, rfl, rfl⟩
theorem mv_X7_shrinksOf : MV M_X7_shrinksOf := ⟨gtb_in 1062 (by decide +kernel) (by decide +kernel), gtb_in 63 (by decide +kernel) (by decide +kernel)⟩
def M_X7_shrinks : MI := (yX7_shrinks, cX7_shrinks, 2, some .int, { frames := 6, cells := 0, slots := 0, locals := 140 })
theorem mk_X7_shrinks : MK M_X7_shrinks 1 := ⟨gtb_in 1059 (by decide +kernel) (by decide +kernel), gtb_in 84 (by decide +kernel) (by decide +kernel), ⟨by decide, by decide, by decide +kernel⟩, rfl, rfl⟩
theorem mv_X7_shrinks : MV M_X7_shrinks := ⟨gtb_in 1057 (by decide +kernel) (by decide +kernel), gtb_in 1058 (by decide +kernel) (by decide +kernel)⟩
def M_X7_leastWithout : MI := (yX7_leastWithout, cX7_leastWithout, 5, some .int, { frames := 1, cells := 0, slots := 0, locals := 20 })
theorem mk_X7_leastWithout : MK M_X7_leastWithout 1 := ⟨gtb_in 1083 (by decide +kernel) (by decide +kernel), gtb_in 84 (by decide +kernel) (by decide +kernel), ⟨by decide, by decide, by decide +kernel⟩, rfl, rfl⟩
theorem mv_X7_leastWithout : MV M_X7_leastWithout := ⟨gtb_in 1082 (by decide +kernel) (by decide +kernel), gtb_in 67 (by decide +kernel) (by decide +kernel)⟩
def M_X7_linesWithout : MI := (yX7_linesWithout, cX7_linesWithout, 3, some .int, { frames := 3, cells := 0, slots := 0, locals := 67 })
theorem mk_X7_linesWithout : MK M_X7_linesWithout 1 := ⟨gtb_in 1079 (by decide +kernel) (by decide +kernel), gtb_in 84 (by decide +kernel) (by decide +kernel), ⟨by decide, by decide, by decide +kernel⟩, rfl, rfl⟩
theorem mv_X7_linesWithout : MV M_X7_linesWithout := ⟨gtb_in 1078 (by decide +kernel) (by decide +kernel), gtb_in 66 (by decide +kernel) (by decide +kernel)⟩
def M_X7_isOverBy : MI := (yX7_isOverBy, cX7_isOverBy, 2, some .boolean, { frames := 2, cells := 0, slots := 0, locals := 44 })
theorem mk_X7_isOverBy : MK M_X7_isOverBy 1 := ⟨gtb_in 1087 (by decide +kernel) (by decide +kernel), gtb_in 84 (by decide +kernel) (by decide +kernel), ⟨by decide, by decide, by decide +kernel⟩, rfl, rfl⟩
theorem mv_X7_isOverBy : MV M_X7_isOverBy := ⟨gtb_in 1086 (by decide +kernel) (by decide +kernel), gtb_in 68 (by decide +kernel) (by decide +kernel)⟩
def M_X7_spareOf : MI := (yX7_spareOf, cX7_spareOf, 5, some .int, { frames := 5, cells := 0, slots := 0, locals := 114 })
theorem mk_X7_spareOf : MK M_X7_spareOf 0 := ⟨gtb_in 1075 (by decide +kernel) (by decide +kernel), gtb_in 84 (by decide +kernel) (by decide +kernel), ⟨by decide, by decide, by decide +kernel⟩, rfl, rfl⟩
theorem mv_X7_spareOf : MV M_X7_spareOf := ⟨gtb_in 1074 (by decide +kernel) (by decide +kernel), gtb_in 65 (by decide +kernel) (by decide +kernel)⟩
def M_X7_spare : MI := (yX7_spare, cX7_spare, 1, some .int, { frames := 6, cells := 0, slots := 0, locals := 138 })
theorem mk_X7_spare : MK M_X7_spare 0 := ⟨gtb_in 1071 (by decide +kernel) (by decide +kernel), gtb_in 84 (by decide +kernel) (by decide +kernel), ⟨by decide, by decide, by decide +kernel⟩, rfl, rfl⟩
theorem mv_X7_spare : MV M_X7_spare := ⟨gtb_in 1069 (by decide +kernel) (by decide +kernel), gtb_in 1070 (by decide +kernel) (by decide +kernel)⟩
def M_X7_sheet : MI := (yX7_sheet, cX7_sheet, 5, some .int, { frames := 2, cells := 0, slots := 0, locals := 42 })
theorem mk_X7_sheet : MK M_X7_sheet 3 := ⟨gtb_in 1091 (by decide +kernel) (by decide +kernel), gtb_in 84 (by decide +kernel) (by decide +kernel), ⟨by decide, by decide, by decide +kernel⟩, rfl, rfl⟩
theorem mv_X7_sheet : MV M_X7_sheet := ⟨gtb_in 1089 (by decide +kernel) (by decide +kernel), gtb_in 1090 (by decide +kernel) (by decide +kernel)⟩
def M_X7_lose : MI := (yX7_lose, cX7_lose, 2, some .int, { frames := 2, cells := 0, slots := 0, locals := 42 })
theorem mk_X7_lose : MK M_X7_lose 1 := ⟨gtb_in 1095 (by decide +kernel) (by decide +kernel), gtb_in 84 (by decide +kernel) (by decide +kernel), ⟨by decide, by decide, by decide +kernel⟩, rfl, rfl⟩
theorem mv_X7_lose : MV M_X7_lose := ⟨gtb_in 1093 (by decide +kernel) (by decide +kernel), gtb_in 1094 (by decide +kernel) (by decide +kernel)⟩
def M_X7_lacks : MI := (yX7_lacks, cX7_lacks, 4, some .int, { frames := 1, cells := 0, slots := 0, locals := 22 })
theorem mk_X7_lacks : MK M_X7_lacks 3 := ⟨gtb_in 1103 (by decide +kernel) (by decide +kernel), gtb_in 84 (by decide +kernel) (by decide +kernel), ⟨by decide, by decide, by decide +kernel⟩, rfl, rfl⟩
theorem mv_X7_lacks : MV M_X7_lacks := ⟨gtb_in 1102 (by decide +kernel) (by decide +kernel), gtb_in 69 (by decide +kernel) (by decide +kernel)⟩
def M_X7_keep : MI := (yX7_keep, cX7_keep, 4, none, { frames := 0, cells := 0, slots := 0, locals := 0 })
theorem mk_X7_keep : MK M_X7_keep 3 := ⟨gtb_in 1107 (by decide +kernel) (by decide +kernel), gtb_in 84 (by decide +kernel) (by decide +kernel), ⟨by decide, by decide, by decide +kernel⟩, rfl, rfl⟩
theorem mv_X7_keep : MV M_X7_keep := ⟨gtb_in 1106 (by decide +kernel) (by decide +kernel), gtb_in 70 (by decide +kernel) (by decide +kernel)⟩
def M_X7_put : MI := (yX7_put, cX7_put, 6, some .int, { frames := 2, cells := 0, slots := 0, locals := 45 })
theorem mk_X7_put : MK M_X7_put 4 := ⟨gtb_in 1099 (by decide +kernel) (by decide +kernel), gtb_in 84 (by decide +kernel) (by decide +kernel), ⟨by decide, by decide, by decide +kernel⟩, rfl, rfl⟩
theorem mv_X7_put : MV M_X7_put := ⟨gtb_in 1097 (by decide +kernel) (by decide +kernel), gtb_in 1098 (by decide +kernel) (by decide +kernel)⟩
def M_X7_get : MI := (yX7_get, cX7_get, 5, some .int, { frames := 2, cells := 0, slots := 0, locals := 45 })
theorem mk_X7_get : MK M_X7_get 3 := ⟨gtb_in 1111 (by decide +kernel) (by decide +kernel), gtb_in 84 (by decide +kernel) (by decide +kernel), ⟨by decide, by decide, by decide +kernel⟩, rfl, rfl⟩
theorem mv_X7_get : MV M_X7_get := ⟨gtb_in 1109 (by decide +kernel) (by decide +kernel), gtb_in 1110 (by decide +kernel) (by decide +kernel)⟩
def M_X7_copy : MI := (yX7_copy, cX7_copy, 7, some .int, { frames := 2, cells := 0, slots := 0, locals := 42 })
theorem mk_X7_copy : MK M_X7_copy 5 := ⟨gtb_in 1116 (by decide +kernel) (by decide +kernel), gtb_in 84 (by decide +kernel) (by decide +kernel), ⟨by decide, by decide, by decide +kernel⟩, rfl, rfl⟩
theorem mv_X7_copy : MV M_X7_copy := ⟨gtb_in 1114 (by decide +kernel) (by decide +kernel), gtb_in 1115 (by decide +kernel) (by decide +kernel)⟩
def M_X7_write : MI := (yX7_write, cX7_write, 5, some .int, { frames := 8, cells := 0, slots := 0, locals := 177 })
theorem mk_X7_write : MK M_X7_write 2 := ⟨gtb_in 1120 (by decide +kernel) (by decide +kernel), gtb_in 84 (by decide +kernel) (by decide +kernel), ⟨by decide, by decide, by decide +kernel⟩, rfl, rfl⟩
theorem mv_X7_write : MV M_X7_write := ⟨gtb_in 1118 (by decide +kernel) (by decide +kernel), gtb_in 1119 (by decide +kernel) (by decide +kernel)⟩
def M_X7_partsOf : MI := (yX7_partsOf, cX7_partsOf, 1, some .int, { frames := 4, cells := 0, slots := 0, locals := 89 })
theorem mk_X7_partsOf : MK M_X7_partsOf 0 := ⟨gtb_in 1128 (by decide +kernel) (by decide +kernel), gtb_in 84 (by decide +kernel) (by decide +kernel), ⟨by decide, by decide, by decide +kernel⟩, rfl, rfl⟩
theorem mv_X7_partsOf : MV M_X7_partsOf := ⟨gtb_in 1127 (by decide +kernel) (by decide +kernel), gtb_in 71 (by decide +kernel) (by decide +kernel)⟩
def M_X7_choicesOf : MI := (yX7_choicesOf, cX7_choicesOf, 1, some .int, { frames := 4, cells := 0, slots := 0, locals := 89 })
theorem mk_X7_choicesOf : MK M_X7_choicesOf 0 := ⟨gtb_in 1132 (by decide +kernel) (by decide +kernel), gtb_in 84 (by decide +kernel) (by decide +kernel), ⟨by decide, by decide, by decide +kernel⟩, rfl, rfl⟩
theorem mv_X7_choicesOf : MV M_X7_choicesOf := ⟨gtb_in 1131 (by decide +kernel) (by decide +kernel), gtb_in 72 (by decide +kernel) (by decide +kernel)⟩
def M_X7_wholeOf : MI := (yX7_wholeOf, cX7_wholeOf, 1, some .int, { frames := 6, cells := 0, slots := 0, locals := 135 })
theorem mk_X7_wholeOf : MK M_X7_wholeOf 0 := ⟨gtb_in 1136 (by decide +kernel) (by decide +kernel), gtb_in 84 (by decide +kernel) (by decide +kernel), ⟨by decide, by decide, by decide +kernel⟩, rfl, rfl⟩
theorem mv_X7_wholeOf : MV M_X7_wholeOf := ⟨gtb_in 1135 (by decide +kernel) (by decide +kernel), gtb_in 73 (by decide +kernel) (by decide +kernel)⟩
def M_X7_count : MI := (yX7_count, cX7_count, 2, some .int, { frames := 8, cells := 0, slots := 0, locals := 177 })
theorem mk_X7_count : MK M_X7_count 1 := ⟨gtb_in 1124 (by decide +kernel) (by decide +kernel), gtb_in 84 (by decide +kernel) (by decide +kernel), ⟨by decide, by decide, by decide +kernel⟩, rfl, rfl⟩
theorem mv_X7_count : MV M_X7_count := ⟨gtb_in 1122 (by decide +kernel) (by decide +kernel), gtb_in 1123 (by decide +kernel) (by decide +kernel)⟩
def M_X7_partDigest : MI := (yX7_partDigest, cX7_partDigest, 8, some .long, { frames := 9, cells := 0, slots := 0, locals := 200 })
theorem mk_X7_partDigest : MK M_X7_partDigest 2 := ⟨gtb_in 1147 (by decide +kernel) (by decide +kernel), gtb_in 84 (by decide +kernel) (by decide +kernel), ⟨by decide, by decide, by decide +kernel⟩, rfl, rfl⟩
theorem mv_X7_partDigest : MV M_X7_partDigest := ⟨gtb_in 1146 (by decide +kernel) (by decide +kernel), gtb_in 74 (by decide +kernel) (by decide +kernel)⟩
def M_X7_digest : MI := (yX7_digest, cX7_digest, 6, some .long, { frames := 10, cells := 0, slots := 0, locals := 227 })
theorem mk_X7_digest : MK M_X7_digest 0 := ⟨gtb_in 1140 (by decide +kernel) (by decide +kernel), gtb_in 84 (by decide +kernel) (by decide +kernel), ⟨by decide, by decide, by decide +kernel⟩, rfl, rfl⟩
theorem mv_X7_digest : MV M_X7_digest := ⟨gtb_in 1138 (by decide +kernel) (by decide +kernel), gtb_in 1139 (by decide +kernel) (by decide +kernel)⟩
end
section
def g_X7_in_15 (z0 : Int) : Option Int :=
  gb z0 <|
  some z0
set_option maxHeartbeats 4000000 in
theorem t_X7_in_15  : ∀ (z0 : Int) (s0 : SS) (r : Int), g_X7_in_15 z0 = some r → AW LM M_X7_in (some (vI r), s0) 15 [none, none, none] [vI z0] s0 := by
  intro z0 s0 r h
  unfold g_X7_in_15 at h
  obtain ⟨hg1, h⟩ := gb_e h
  obtain rfl := Option.some.inj h
  exact aw_zret dX7_in_15 rfl hg1
def g_X7_in_14  : Option Int :=
  g_X7_in_15  0
set_option maxHeartbeats 4000000 in
theorem t_X7_in_14  : ∀ (s0 : SS) (r : Int), g_X7_in_14 = some r → AW LM M_X7_in (some (vI r), s0) 14 [none, none, none] [] s0 := by
  intro s0 r h
  unfold g_X7_in_14 at h
  refine aw_iconst dX7_in_14 ⟨by decide, by decide⟩ ?_
  exact (t_X7_in_15   0 s0 _ h)
def f_X7_in (x0 : Int) (x1 : Int) (x2 : Int) : Option Int :=
  if x0 < x1 then (
    g_X7_in_14  
  ) else (
    if x2 < x0 then (
      g_X7_in_14  
    ) else (
      g_X7_in_15  1
    )
  )
set_option maxHeartbeats 4000000 in
theorem t_X7_in_0  : ∀ (x0 : Int) (x1 : Int) (x2 : Int) (s0 : SS) (r : Int), f_X7_in x0 x1 x2 = some r → AW LM M_X7_in (some (vI r), s0) 0 [some (vI x0), some (vI x1), some (vI x2)] [] s0 := by
  intro x0 x1 x2 s0 r h
  unfold f_X7_in at h
  refine aw_iload_n dX7_in_0 rfl rfl ?_
  refine aw_iload_n dX7_in_1 rfl rfl ?_
  refine aw_icmp_lt (tgt := 14) dX7_in_2 (by decide) (fun hc => ?_) (fun hc => ?_)
  · replace h := ip hc h
    exact aw_less (ls' := [none, none, none]) (trivial) (t_X7_in_14   s0 _ h)
  · replace h := ic hc h
    refine aw_iload_n dX7_in_5 rfl rfl ?_
    refine aw_iload_n dX7_in_6 rfl rfl ?_
    refine aw_icmp_gt (tgt := 14) dX7_in_7 (by decide) (fun hc => ?_) (fun hc => ?_)
    · replace h := ip hc h
      exact aw_less (ls' := [none, none, none]) (trivial) (t_X7_in_14   s0 _ h)
    · replace h := ic hc h
      refine aw_iconst dX7_in_10 ⟨by decide, by decide⟩ ?_
      refine aw_goto (tgt := 15) dX7_in_11 (by decide) ?_
      exact aw_less (ls' := [none, none, none]) (trivial) (t_X7_in_15   1 s0 _ h)
theorem c_X7_in {x0 : Int} {x1 : Int} {x2 : Int} {s0 : SS} {y : Int} (h : f_X7_in x0 x1 x2 = some y) : CT LM M_X7_in [vI x0, vI x1, vI x2] s0 (some (vI y), s0) :=
  ct_of (n := 0) (by decide) (Nat.le_of_ble_eq_true rfl) (t_X7_in_0 x0 x1 x2 s0  _ h)
def g_X7_isIn_14 (z0 : Int) : Option Int :=
  gb z0 <|
  some z0
set_option maxHeartbeats 4000000 in
theorem t_X7_isIn_14  : ∀ (z0 : Int) (s0 : SS) (r : Int), g_X7_isIn_14 z0 = some r → AW LM M_X7_isIn (some (vI r), s0) 14 [none, none] [vI z0] s0 := by
  intro z0 s0 r h
  unfold g_X7_isIn_14 at h
  obtain ⟨hg1, h⟩ := gb_e h
  obtain rfl := Option.some.inj h
  exact aw_zret dX7_isIn_14 rfl hg1
def f_X7_isIn (x0 : Int) (x1 : Int) : Option Int :=
  if (i_and (i_shr x0 x1) 1) = 1 then (
    g_X7_isIn_14  1
  ) else (
    g_X7_isIn_14  0
  )
set_option maxHeartbeats 4000000 in
theorem t_X7_isIn_0  : ∀ (x0 : Int) (x1 : Int) (s0 : SS) (r : Int), f_X7_isIn x0 x1 = some r → AW LM M_X7_isIn (some (vI r), s0) 0 [some (vI x0), some (vI x1)] [] s0 := by
  intro x0 x1 s0 r h
  unfold f_X7_isIn at h
  refine aw_iload_n dX7_isIn_0 rfl rfl ?_
  refine aw_iload_n dX7_isIn_1 rfl rfl ?_
  refine aw_ishr dX7_isIn_2 ?_
  refine aw_iconst dX7_isIn_3 ⟨by decide, by decide⟩ ?_
  refine aw_iand dX7_isIn_4 ?_
  refine aw_iconst dX7_isIn_5 ⟨by decide, by decide⟩ ?_
  refine aw_icmp_ne (tgt := 13) dX7_isIn_6 (by decide) (fun hc => ?_) (fun hc => ?_)
  rotate_left
  · replace h := ip hc h
    refine aw_iconst dX7_isIn_9 ⟨by decide, by decide⟩ ?_
    refine aw_goto (tgt := 14) dX7_isIn_10 (by decide) ?_
    exact aw_less (ls' := [none, none]) (trivial) (t_X7_isIn_14   1 s0 _ h)
  · replace h := ic hc h
    refine aw_iconst dX7_isIn_13 ⟨by decide, by decide⟩ ?_
    exact aw_less (ls' := [none, none]) (trivial) (t_X7_isIn_14   0 s0 _ h)
theorem c_X7_isIn {x0 : Int} {x1 : Int} {s0 : SS} {y : Int} (h : f_X7_isIn x0 x1 = some y) : CT LM M_X7_isIn [vI x0, vI x1] s0 (some (vI y), s0) :=
  ct_of (n := 0) (by decide) (Nat.le_of_ble_eq_true rfl) (t_X7_isIn_0 x0 x1 s0  _ h)
def f_X7_type (x1 : Int) (s0 : SS) : Option (Int × SS) :=
  bn (f_X7_in x1 0 255) fun y1 =>
  if y1 = 0 then (
    some ((-2), s0)
  ) else (
    if (s0 0 0) = 40 then (
      some ((-4), s0)
    ) else (
      gx (s0 0 0) 40 <|
      sb (up s0 1 (s0 0 0).toNat x1) fun s1 =>
      sb (up s1 0 0 (wr ((s1 0 0) + 1))) fun s2 =>
      some (s2 0 0, s2)
    )
  )
set_option maxHeartbeats 4000000 in
theorem t_X7_type_0  : ∀ (x1 : Int) (s0 : SS) (r : (Int × SS)), f_X7_type x1 s0 = some r → AW LM M_X7_type (some (vI r.1), r.2) 0 [some (vR (some 0)), some (vI x1)] [] s0 := by
  intro x1 s0 r h
  unfold f_X7_type at h
  refine aw_iload_n dX7_type_0 rfl rfl ?_
  refine aw_iconst dX7_type_1 ⟨by decide, by decide⟩ ?_
  refine aw_sipush dX7_type_2 ⟨by decide, by decide⟩ (by decide) ?_
  obtain ⟨y1, hg1, h⟩ := bn_e h
  refine aw_S3i (M2 := M_X7_in) dX7_type_5 lk_X7_75 mk_X7_in ms_X7_in ⟨by decide, by decide⟩ (Nat.le_of_ble_eq_true rfl) (c_X7_in  hg1) ?_
  refine aw_if_ne (tgt := 14) dX7_type_8 (by decide) (fun hc => ?_) (fun hc => ?_)
  rotate_left
  · replace h := ip hc h
    refine aw_bipush dX7_type_11 ⟨by decide, by decide⟩ (by decide) ?_
    obtain rfl := Option.some.inj h
    exact aw_iret dX7_type_13 rfl
  · replace h := ic hc h
    refine aw_aload_n dX7_type_14 rfl rfl ?_
    refine aw_getI dX7_type_15 fk_X7_79 pM_0 rfl ?_
    refine aw_bipush dX7_type_18 ⟨by decide, by decide⟩ (by decide) ?_
    refine aw_icmp_ne (tgt := 26) dX7_type_20 (by decide) (fun hc => ?_) (fun hc => ?_)
    rotate_left
    · replace h := ip hc h
      refine aw_bipush dX7_type_23 ⟨by decide, by decide⟩ (by decide) ?_
      obtain rfl := Option.some.inj h
      exact aw_iret dX7_type_25 rfl
    · replace h := ic hc h
      refine aw_aload_n dX7_type_26 rfl rfl ?_
      refine aw_getR (t := 1) dX7_type_27 fk_X7_7 pM_0 rfl ?_
      refine aw_aload_n dX7_type_30 rfl rfl ?_
      refine aw_getI dX7_type_31 fk_X7_79 pM_0 rfl ?_
      refine aw_iload_n dX7_type_34 rfl rfl ?_
      obtain ⟨hg2, h⟩ := gx_e h
      refine aw_iast dX7_type_35 aM_1 hg2 (fun s1 e => ?_)
      replace h := sb_e h e
      clear e
      refine aw_aload_n dX7_type_36 rfl rfl ?_
      refine aw_dup dX7_type_37 rfl ?_
      refine aw_getI dX7_type_38 fk_X7_79 pM_0 rfl ?_
      refine aw_iconst dX7_type_41 ⟨by decide, by decide⟩ ?_
      refine aw_iadd dX7_type_42 ?_
      refine aw_put dX7_type_43 fk_X7_79 pM_0 rfl ft_7_0 (nar_int _) (fun s2 e => ?_)
      replace h := sb_e h e
      clear e
      refine aw_aload_n dX7_type_46 rfl rfl ?_
      refine aw_getI dX7_type_47 fk_X7_79 pM_0 rfl ?_
      obtain rfl := Option.some.inj h
      exact aw_iret dX7_type_50 rfl
theorem c_X7_type {x1 : Int} {s0 : SS} {y : Int} {s1 : SS} (h : f_X7_type x1 s0 = some (y, s1)) : CT LM M_X7_type [vR (some 0), vI x1] s0 (some (vI y), s1) :=
  ct_of (n := 0) (by decide) (Nat.le_of_ble_eq_true rfl) (t_X7_type_0 x1 s0  _ h)
def f_X7_wipe  (s0 : SS) : Option (Int × SS) :=
  sb (s0 0 0) fun y1 =>
  sb (up s0 0 0 0) fun s1 =>
  some (y1, s1)
set_option maxHeartbeats 4000000 in
theorem t_X7_wipe_0  : ∀ (s0 : SS) (r : (Int × SS)), f_X7_wipe s0 = some r → AW LM M_X7_wipe (some (vI r.1), r.2) 0 [some (vR (some 0)), none] [] s0 := by
  intro s0 r h
  unfold f_X7_wipe at h
  refine aw_aload_n dX7_wipe_0 rfl rfl ?_
  refine aw_getI dX7_wipe_1 fk_X7_79 pM_0 rfl ?_
  refine aw_istore_n dX7_wipe_4 rfl (by decide) rfl (fun y1 e => ?_)
  replace h := sb_e h e
  clear e
  show AW _ _ _ 5 [some (vR (some 0)), some (vI y1)] _ _
  refine aw_aload_n dX7_wipe_5 rfl rfl ?_
  refine aw_iconst dX7_wipe_6 ⟨by decide, by decide⟩ ?_
  refine aw_put dX7_wipe_7 fk_X7_79 pM_0 rfl ft_7_0 (nar_int _) (fun s1 e => ?_)
  replace h := sb_e h e
  clear e
  refine aw_iload_n dX7_wipe_10 rfl rfl ?_
  obtain rfl := Option.some.inj h
  exact aw_iret dX7_wipe_11 rfl
theorem c_X7_wipe {s0 : SS} {y : Int} {s1 : SS} (h : f_X7_wipe s0 = some (y, s1)) : CT LM M_X7_wipe [vR (some 0)] s0 (some (vI y), s1) :=
  ct_of (n := 1) (by decide) (Nat.le_of_ble_eq_true rfl) (t_X7_wipe_0  s0  _ h)
def f_X7_undo  (s0 : SS) : Option (Int × SS) :=
  if (s0 0 0) = 0 then (
    some ((-3), s0)
  ) else (
    sb (up s0 0 0 (wr ((s0 0 0) - 1))) fun s1 =>
    some (s1 0 0, s1)
  )
set_option maxHeartbeats 4000000 in
theorem t_X7_undo_0  : ∀ (s0 : SS) (r : (Int × SS)), f_X7_undo s0 = some r → AW LM M_X7_undo (some (vI r.1), r.2) 0 [some (vR (some 0))] [] s0 := by
  intro s0 r h
  unfold f_X7_undo at h
  refine aw_aload_n dX7_undo_0 rfl rfl ?_
  refine aw_getI dX7_undo_1 fk_X7_79 pM_0 rfl ?_
  refine aw_if_ne (tgt := 10) dX7_undo_4 (by decide) (fun hc => ?_) (fun hc => ?_)
  rotate_left
  · replace h := ip hc h
    refine aw_bipush dX7_undo_7 ⟨by decide, by decide⟩ (by decide) ?_
    obtain rfl := Option.some.inj h
    exact aw_iret dX7_undo_9 rfl
  · replace h := ic hc h
    refine aw_aload_n dX7_undo_10 rfl rfl ?_
    refine aw_dup dX7_undo_11 rfl ?_
    refine aw_getI dX7_undo_12 fk_X7_79 pM_0 rfl ?_
    refine aw_iconst dX7_undo_15 ⟨by decide, by decide⟩ ?_
    refine aw_isub dX7_undo_16 ?_
    refine aw_put dX7_undo_17 fk_X7_79 pM_0 rfl ft_7_0 (nar_int _) (fun s1 e => ?_)
    replace h := sb_e h e
    clear e
    refine aw_aload_n dX7_undo_20 rfl rfl ?_
    refine aw_getI dX7_undo_21 fk_X7_79 pM_0 rfl ?_
    obtain rfl := Option.some.inj h
    exact aw_iret dX7_undo_24 rfl
theorem c_X7_undo {s0 : SS} {y : Int} {s1 : SS} (h : f_X7_undo s0 = some (y, s1)) : CT LM M_X7_undo [vR (some 0)] s0 (some (vI y), s1) :=
  ct_of (n := 0) (by decide) (Nat.le_of_ble_eq_true rfl) (t_X7_undo_0  s0  _ h)
def f_X7_width (x1 : Int) (s0 : SS) : Option (Int × SS) :=
  bn (f_X7_in x1 1 99) fun y1 =>
  if y1 = 0 then (
    some ((-2), s0)
  ) else (
    sb (s0 0 2) fun y2 =>
    sb (up s0 0 2 x1) fun s1 =>
    some (y2, s1)
  )
set_option maxHeartbeats 4000000 in
theorem t_X7_width_0  : ∀ (x1 : Int) (s0 : SS) (r : (Int × SS)), f_X7_width x1 s0 = some r → AW LM M_X7_width (some (vI r.1), r.2) 0 [some (vR (some 0)), some (vI x1), none] [] s0 := by
  intro x1 s0 r h
  unfold f_X7_width at h
  refine aw_iload_n dX7_width_0 rfl rfl ?_
  refine aw_iconst dX7_width_1 ⟨by decide, by decide⟩ ?_
  refine aw_bipush dX7_width_2 ⟨by decide, by decide⟩ (by decide) ?_
  obtain ⟨y1, hg1, h⟩ := bn_e h
  refine aw_S3i (M2 := M_X7_in) dX7_width_4 lk_X7_75 mk_X7_in ms_X7_in ⟨by decide, by decide⟩ (Nat.le_of_ble_eq_true rfl) (c_X7_in  hg1) ?_
  refine aw_if_ne (tgt := 13) dX7_width_7 (by decide) (fun hc => ?_) (fun hc => ?_)
  rotate_left
  · replace h := ip hc h
    refine aw_bipush dX7_width_10 ⟨by decide, by decide⟩ (by decide) ?_
    obtain rfl := Option.some.inj h
    exact aw_iret dX7_width_12 rfl
  · replace h := ic hc h
    refine aw_aload_n dX7_width_13 rfl rfl ?_
    refine aw_getI dX7_width_14 fk_X7_13 pM_0 rfl ?_
    refine aw_istore_n dX7_width_17 rfl (by decide) rfl (fun y2 e => ?_)
    replace h := sb_e h e
    clear e
    show AW _ _ _ 18 [some (vR (some 0)), some (vI x1), some (vI y2)] _ _
    refine aw_aload_n dX7_width_18 rfl rfl ?_
    refine aw_iload_n dX7_width_19 rfl rfl ?_
    refine aw_put dX7_width_20 fk_X7_13 pM_0 rfl ft_7_2 (nar_int _) (fun s1 e => ?_)
    replace h := sb_e h e
    clear e
    refine aw_iload_n dX7_width_23 rfl rfl ?_
    obtain rfl := Option.some.inj h
    exact aw_iret dX7_width_24 rfl
theorem c_X7_width {x1 : Int} {s0 : SS} {y : Int} {s1 : SS} (h : f_X7_width x1 s0 = some (y, s1)) : CT LM M_X7_width [vR (some 0), vI x1] s0 (some (vI y), s1) :=
  ct_of (n := 1) (by decide) (Nat.le_of_ble_eq_true rfl) (t_X7_width_0 x1 s0  _ h)
def f_X7_isSheet (x0 : Int) : Option Int :=
  bn (f_X7_in x0 0 3) fun y1 =>
  gb y1 <|
  some y1
set_option maxHeartbeats 4000000 in
theorem t_X7_isSheet_0  : ∀ (x0 : Int) (s0 : SS) (r : Int), f_X7_isSheet x0 = some r → AW LM M_X7_isSheet (some (vI r), s0) 0 [some (vI x0)] [] s0 := by
  intro x0 s0 r h
  unfold f_X7_isSheet at h
  refine aw_iload_n dX7_isSheet_0 rfl rfl ?_
  refine aw_iconst dX7_isSheet_1 ⟨by decide, by decide⟩ ?_
  refine aw_iconst dX7_isSheet_2 ⟨by decide, by decide⟩ ?_
  obtain ⟨y1, hg1, h⟩ := bn_e h
  refine aw_S3i (M2 := M_X7_in) dX7_isSheet_3 lk_X7_75 mk_X7_in ms_X7_in ⟨by decide, by decide⟩ (Nat.le_of_ble_eq_true rfl) (c_X7_in  hg1) ?_
  obtain ⟨hg2, h⟩ := gb_e h
  obtain rfl := Option.some.inj h
  exact aw_zret dX7_isSheet_6 rfl hg2
theorem c_X7_isSheet {x0 : Int} {s0 : SS} {y : Int} (h : f_X7_isSheet x0 = some y) : CT LM M_X7_isSheet [vI x0] s0 (some (vI y), s0) :=
  ct_of (n := 0) (by decide) (Nat.le_of_ble_eq_true rfl) (t_X7_isSheet_0 x0 s0  _ h)
def f_X7_meets (x1 : Int) (s0 : SS) : Option (Int × SS) :=
  sb (up s0 0 30 x1) fun s1 =>
  some (wr ((-10) - x1), s1)
set_option maxHeartbeats 4000000 in
theorem t_X7_meets_0  : ∀ (x1 : Int) (s0 : SS) (r : (Int × SS)), f_X7_meets x1 s0 = some r → AW LM M_X7_meets (some (vI r.1), r.2) 0 [some (vR (some 0)), some (vI x1)] [] s0 := by
  intro x1 s0 r h
  unfold f_X7_meets at h
  refine aw_aload_n dX7_meets_0 rfl rfl ?_
  refine aw_iload_n dX7_meets_1 rfl rfl ?_
  refine aw_put dX7_meets_2 fk_X7_276 pM_0 rfl ft_7_30 (nar_int _) (fun s1 e => ?_)
  replace h := sb_e h e
  clear e
  refine aw_bipush dX7_meets_5 ⟨by decide, by decide⟩ (by decide) ?_
  refine aw_iload_n dX7_meets_7 rfl rfl ?_
  refine aw_isub dX7_meets_8 ?_
  obtain rfl := Option.some.inj h
  exact aw_iret dX7_meets_9 rfl
theorem c_X7_meets {x1 : Int} {s0 : SS} {y : Int} {s1 : SS} (h : f_X7_meets x1 s0 = some (y, s1)) : CT LM M_X7_meets [vR (some 0), vI x1] s0 (some (vI y), s1) :=
  ct_of (n := 0) (by decide) (Nat.le_of_ble_eq_true rfl) (t_X7_meets_0 x1 s0  _ h)
def g_X7_read_61 (x2 : Int) (s0 : SS) : Option (Int × SS) :=
  some (x2, s0)
set_option maxHeartbeats 4000000 in
theorem t_X7_read_61  : ∀ (x2 : Int) (s0 : SS) (r : (Int × SS)), g_X7_read_61 x2 s0 = some r → AW LM M_X7_read (some (vI r.1), r.2) 61 [none, none, some (vI x2)] [] s0 := by
  intro x2 s0 r h
  unfold g_X7_read_61 at h
  refine aw_iload_n dX7_read_61 rfl rfl ?_
  obtain rfl := Option.some.inj h
  exact aw_iret dX7_read_62 rfl
def g_X7_read_27 (k27 : Int → Int → SS → Option (Int × SS)) (x1 : Int) (x2 : Int) (s0 : SS) : Option (Int × SS) :=
  gx x1 4 <|
  if (s0 18 x1.toNat) ≤ x2 then (
    g_X7_read_61  x2 s0
  ) else (
    gx (wr ((wr (60 * x1)) + x2)) 240 <|
    cb (f_X7_type (s0 19 (wr ((wr (60 * x1)) + x2)).toNat) s0) fun y1 s1 =>
    if y1 ≤ 0 then (
      g_X7_read_61  x2 s1
    ) else (
      sb (wr (x2 + 1)) fun y2 =>
      k27 x1 y2 s1
    )
  )
set_option maxHeartbeats 4000000 in
theorem t_X7_read_27 (k27 : Int → Int → SS → Option (Int × SS)) (hk27 : ∀ (x1 : Int) (x2 : Int) (s0 : SS) (r : (Int × SS)), k27 x1 x2 s0 = some r → AW LM M_X7_read (some (vI r.1), r.2) 27 [some (vR (some 0)), some (vI x1), some (vI x2)] [] s0) : ∀ (x1 : Int) (x2 : Int) (s0 : SS) (r : (Int × SS)), g_X7_read_27 k27 x1 x2 s0 = some r → AW LM M_X7_read (some (vI r.1), r.2) 27 [some (vR (some 0)), some (vI x1), some (vI x2)] [] s0 := by
  intro x1 x2 s0 r h
  unfold g_X7_read_27 at h
  refine aw_iload_n dX7_read_27 rfl rfl ?_
  refine aw_aload_n dX7_read_28 rfl rfl ?_
  refine aw_getR (t := 18) dX7_read_29 fk_X7_66 pM_0 rfl ?_
  refine aw_iload_n dX7_read_32 rfl rfl ?_
  obtain ⟨hg1, h⟩ := gx_e h
  refine aw_iald dX7_read_33 aM_18 hg1 ?_
  refine aw_icmp_ge (tgt := 61) dX7_read_34 (by decide) (fun hc => ?_) (fun hc => ?_)
  · replace h := ip hc h
    exact aw_less (ls' := [none, none, some (vI x2)]) (⟨rfl, trivial⟩) (t_X7_read_61   x2 s0 _ h)
  · replace h := ic hc h
    refine aw_aload_n dX7_read_37 rfl rfl ?_
    refine aw_aload_n dX7_read_38 rfl rfl ?_
    refine aw_getR (t := 19) dX7_read_39 fk_X7_69 pM_0 rfl ?_
    refine aw_bipush dX7_read_42 ⟨by decide, by decide⟩ (by decide) ?_
    refine aw_iload_n dX7_read_44 rfl rfl ?_
    refine aw_imul dX7_read_45 ?_
    refine aw_iload_n dX7_read_46 rfl rfl ?_
    refine aw_iadd dX7_read_47 ?_
    obtain ⟨hg2, h⟩ := gx_e h
    refine aw_iald dX7_read_48 aM_19 hg2 ?_
    obtain ⟨y1, s1, hg3, h⟩ := cb_e h
    refine aw_V1i (M2 := M_X7_type) dX7_read_49 lk_X7_90 mk_X7_type mv_X7_type ⟨by decide, by decide⟩ pM_0 ⟨_, _, rfl⟩ (Nat.le_of_ble_eq_true rfl) (c_X7_type  hg3) ?_
    refine aw_if_le (tgt := 61) dX7_read_52 (by decide) (fun hc => ?_) (fun hc => ?_)
    · replace h := ip hc h
      exact aw_less (ls' := [none, none, some (vI x2)]) (⟨rfl, trivial⟩) (t_X7_read_61   x2 s1 _ h)
    · replace h := ic hc h
      refine aw_iinc dX7_read_55 rfl (by decide) rfl (fun y2 e => ?_)
      replace h := sb_e h e
      clear e
      show AW _ _ _ 58 [some (vR (some 0)), some (vI x1), some (vI y2)] _ _
      refine aw_goto (tgt := 27) dX7_read_58 (by decide) ?_
      exact (hk27 x1 y2 s1 _ h)
def f_X7_read_27 : Nat → Int → Int → SS → Option (Int × SS)
  | 0 => fun _ _ _ => none
  | n + 1 => g_X7_read_27 (f_X7_read_27  n)
theorem s_X7_read_27  : ∀ (n : Nat), ∀ (x1 : Int) (x2 : Int) (s0 : SS) (r : (Int × SS)), f_X7_read_27 n x1 x2 s0 = some r → AW LM M_X7_read (some (vI r.1), r.2) 27 [some (vR (some 0)), some (vI x1), some (vI x2)] [] s0 := by
  intro n
  induction n with
  | zero =>
    intro x1 x2 s0 r h
    cases h
  | succ n ih =>
    intro x1 x2 s0 r h
    exact t_X7_read_27 (f_X7_read_27  n) ih x1 x2 s0 r h
def f_X7_read (x1 : Int) (s0 : SS) : Option (Int × SS) :=
  bn (f_X7_isSheet x1) fun y1 =>
  if y1 = 0 then (
    some ((-2), s0)
  ) else (
    gx x1 4 <|
    if (s0 16 x1.toNat) = 0 then (
      cb (f_X7_meets 1 s0) fun y2 s1 =>
      some (y2, s1)
    ) else (
      f_X7_read_27  FU x1 0 s0
    )
  )
set_option maxHeartbeats 4000000 in
theorem t_X7_read_0  : ∀ (x1 : Int) (s0 : SS) (r : (Int × SS)), f_X7_read x1 s0 = some r → AW LM M_X7_read (some (vI r.1), r.2) 0 [some (vR (some 0)), some (vI x1), none] [] s0 := by
  intro x1 s0 r h
  unfold f_X7_read at h
  refine aw_iload_n dX7_read_0 rfl rfl ?_
  obtain ⟨y1, hg1, h⟩ := bn_e h
  refine aw_S1i (M2 := M_X7_isSheet) dX7_read_1 lk_X7_82 mk_X7_isSheet ms_X7_isSheet ⟨by decide, by decide⟩ (Nat.le_of_ble_eq_true rfl) (c_X7_isSheet  hg1) ?_
  refine aw_if_ne (tgt := 10) dX7_read_4 (by decide) (fun hc => ?_) (fun hc => ?_)
  rotate_left
  · replace h := ip hc h
    refine aw_bipush dX7_read_7 ⟨by decide, by decide⟩ (by decide) ?_
    obtain rfl := Option.some.inj h
    exact aw_iret dX7_read_9 rfl
  · replace h := ic hc h
    refine aw_aload_n dX7_read_10 rfl rfl ?_
    refine aw_getR (t := 16) dX7_read_11 fk_X7_59 pM_0 rfl ?_
    refine aw_iload_n dX7_read_14 rfl rfl ?_
    obtain ⟨hg2, h⟩ := gx_e h
    refine aw_zald dX7_read_15 aM_16 hg2 ?_
    refine aw_if_ne (tgt := 25) dX7_read_16 (by decide) (fun hc => ?_) (fun hc => ?_)
    rotate_left
    · replace h := ip hc h
      refine aw_aload_n dX7_read_19 rfl rfl ?_
      refine aw_iconst dX7_read_20 ⟨by decide, by decide⟩ ?_
      obtain ⟨y2, s1, hg3, h⟩ := cb_e h
      refine aw_V1i (M2 := M_X7_meets) dX7_read_21 lk_X7_86 mk_X7_meets mv_X7_meets ⟨by decide, by decide⟩ pM_0 ⟨_, _, rfl⟩ (Nat.le_of_ble_eq_true rfl) (c_X7_meets  hg3) ?_
      obtain rfl := Option.some.inj h
      exact aw_iret dX7_read_24 rfl
    · replace h := ic hc h
      refine aw_iconst dX7_read_25 ⟨by decide, by decide⟩ ?_
      refine aw_istore_nA dX7_read_26 rfl (by decide) rfl ?_
      show AW _ _ _ 27 [some (vR (some 0)), some (vI x1), some (vI 0)] _ _
      exact (s_X7_read_27   FU x1 0 s0 _ h)
theorem c_X7_read {x1 : Int} {s0 : SS} {y : Int} {s1 : SS} (h : f_X7_read x1 s0 = some (y, s1)) : CT LM M_X7_read [vR (some 0), vI x1] s0 (some (vI y), s1) :=
  ct_of (n := 1) (by decide) (Nat.le_of_ble_eq_true rfl) (t_X7_read_0 x1 s0  _ h)
def g_X7_kindOf_66 (z0 : Int) : Option Int :=
  some z0
set_option maxHeartbeats 4000000 in
theorem t_X7_kindOf_66  : ∀ (z0 : Int) (s0 : SS) (r : Int), g_X7_kindOf_66 z0 = some r → AW LM M_X7_kindOf (some (vI r), s0) 66 [none] [vI z0] s0 := by
  intro z0 s0 r h
  unfold g_X7_kindOf_66 at h
  obtain rfl := Option.some.inj h
  exact aw_iret dX7_kindOf_66 rfl
def f_X7_kindOf (x0 : Int) : Option Int :=
  bn (f_X7_in x0 97 105) fun y1 =>
  if y1 = 0 then (
    if x0 = 72 then (
      g_X7_kindOf_66  1
    ) else (
      if x0 = 86 then (
        g_X7_kindOf_66  2
      ) else (
        if x0 = 67 then (
          g_X7_kindOf_66  3
        ) else (
          if x0 = 78 then (
            g_X7_kindOf_66  4
          ) else (
            if x0 = 70 then (
              g_X7_kindOf_66  5
            ) else (
              g_X7_kindOf_66  (-1)
            )
          )
        )
      )
    )
  ) else (
    g_X7_kindOf_66  0
  )
set_option maxHeartbeats 4000000 in
theorem t_X7_kindOf_0  : ∀ (x0 : Int) (s0 : SS) (r : Int), f_X7_kindOf x0 = some r → AW LM M_X7_kindOf (some (vI r), s0) 0 [some (vI x0)] [] s0 := by
  intro x0 s0 r h
  unfold f_X7_kindOf at h
  refine aw_iload_n dX7_kindOf_0 rfl rfl ?_
  refine aw_bipush dX7_kindOf_1 ⟨by decide, by decide⟩ (by decide) ?_
  refine aw_bipush dX7_kindOf_3 ⟨by decide, by decide⟩ (by decide) ?_
  obtain ⟨y1, hg1, h⟩ := bn_e h
  refine aw_S3i (M2 := M_X7_in) dX7_kindOf_5 lk_X7_75 mk_X7_in ms_X7_in ⟨by decide, by decide⟩ (Nat.le_of_ble_eq_true rfl) (c_X7_in  hg1) ?_
  refine aw_if_eq (tgt := 15) dX7_kindOf_8 (by decide) (fun hc => ?_) (fun hc => ?_)
  · replace h := ip hc h
    refine aw_iload_n dX7_kindOf_15 rfl rfl ?_
    refine aw_bipush dX7_kindOf_16 ⟨by decide, by decide⟩ (by decide) ?_
    refine aw_icmp_ne (tgt := 25) dX7_kindOf_18 (by decide) (fun hc => ?_) (fun hc => ?_)
    rotate_left
    · replace h := ip hc h
      refine aw_iconst dX7_kindOf_21 ⟨by decide, by decide⟩ ?_
      refine aw_goto (tgt := 66) dX7_kindOf_22 (by decide) ?_
      exact aw_less (ls' := [none]) (trivial) (t_X7_kindOf_66   1 s0 _ h)
    · replace h := ic hc h
      refine aw_iload_n dX7_kindOf_25 rfl rfl ?_
      refine aw_bipush dX7_kindOf_26 ⟨by decide, by decide⟩ (by decide) ?_
      refine aw_icmp_ne (tgt := 35) dX7_kindOf_28 (by decide) (fun hc => ?_) (fun hc => ?_)
      rotate_left
      · replace h := ip hc h
        refine aw_iconst dX7_kindOf_31 ⟨by decide, by decide⟩ ?_
        refine aw_goto (tgt := 66) dX7_kindOf_32 (by decide) ?_
        exact aw_less (ls' := [none]) (trivial) (t_X7_kindOf_66   2 s0 _ h)
      · replace h := ic hc h
        refine aw_iload_n dX7_kindOf_35 rfl rfl ?_
        refine aw_bipush dX7_kindOf_36 ⟨by decide, by decide⟩ (by decide) ?_
        refine aw_icmp_ne (tgt := 45) dX7_kindOf_38 (by decide) (fun hc => ?_) (fun hc => ?_)
        rotate_left
        · replace h := ip hc h
          refine aw_iconst dX7_kindOf_41 ⟨by decide, by decide⟩ ?_
          refine aw_goto (tgt := 66) dX7_kindOf_42 (by decide) ?_
          exact aw_less (ls' := [none]) (trivial) (t_X7_kindOf_66   3 s0 _ h)
        · replace h := ic hc h
          refine aw_iload_n dX7_kindOf_45 rfl rfl ?_
          refine aw_bipush dX7_kindOf_46 ⟨by decide, by decide⟩ (by decide) ?_
          refine aw_icmp_ne (tgt := 55) dX7_kindOf_48 (by decide) (fun hc => ?_) (fun hc => ?_)
          rotate_left
          · replace h := ip hc h
            refine aw_iconst dX7_kindOf_51 ⟨by decide, by decide⟩ ?_
            refine aw_goto (tgt := 66) dX7_kindOf_52 (by decide) ?_
            exact aw_less (ls' := [none]) (trivial) (t_X7_kindOf_66   4 s0 _ h)
          · replace h := ic hc h
            refine aw_iload_n dX7_kindOf_55 rfl rfl ?_
            refine aw_bipush dX7_kindOf_56 ⟨by decide, by decide⟩ (by decide) ?_
            refine aw_icmp_ne (tgt := 65) dX7_kindOf_58 (by decide) (fun hc => ?_) (fun hc => ?_)
            rotate_left
            · replace h := ip hc h
              refine aw_iconst dX7_kindOf_61 ⟨by decide, by decide⟩ ?_
              refine aw_goto (tgt := 66) dX7_kindOf_62 (by decide) ?_
              exact aw_less (ls' := [none]) (trivial) (t_X7_kindOf_66   5 s0 _ h)
            · replace h := ic hc h
              refine aw_iconst dX7_kindOf_65 ⟨by decide, by decide⟩ ?_
              exact aw_less (ls' := [none]) (trivial) (t_X7_kindOf_66   (-1) s0 _ h)
  · replace h := ic hc h
    refine aw_iconst dX7_kindOf_11 ⟨by decide, by decide⟩ ?_
    refine aw_goto (tgt := 66) dX7_kindOf_12 (by decide) ?_
    exact aw_less (ls' := [none]) (trivial) (t_X7_kindOf_66   0 s0 _ h)
theorem c_X7_kindOf {x0 : Int} {s0 : SS} {y : Int} (h : f_X7_kindOf x0 = some y) : CT LM M_X7_kindOf [vI x0] s0 (some (vI y), s0) :=
  ct_of (n := 0) (by decide) (Nat.le_of_ble_eq_true rfl) (t_X7_kindOf_0 x0 s0  _ h)
def f_X7_isTwofold (x0 : Int) : Option Int :=
  bn (f_X7_in x0 1 3) fun y1 =>
  gb y1 <|
  some y1
set_option maxHeartbeats 4000000 in
theorem t_X7_isTwofold_0  : ∀ (x0 : Int) (s0 : SS) (r : Int), f_X7_isTwofold x0 = some r → AW LM M_X7_isTwofold (some (vI r), s0) 0 [some (vI x0)] [] s0 := by
  intro x0 s0 r h
  unfold f_X7_isTwofold at h
  refine aw_iload_n dX7_isTwofold_0 rfl rfl ?_
  refine aw_iconst dX7_isTwofold_1 ⟨by decide, by decide⟩ ?_
  refine aw_iconst dX7_isTwofold_2 ⟨by decide, by decide⟩ ?_
  obtain ⟨y1, hg1, h⟩ := bn_e h
  refine aw_S3i (M2 := M_X7_in) dX7_isTwofold_3 lk_X7_75 mk_X7_in ms_X7_in ⟨by decide, by decide⟩ (Nat.le_of_ble_eq_true rfl) (c_X7_in  hg1) ?_
  obtain ⟨hg2, h⟩ := gb_e h
  obtain rfl := Option.some.inj h
  exact aw_zret dX7_isTwofold_6 rfl hg2
theorem c_X7_isTwofold {x0 : Int} {s0 : SS} {y : Int} (h : f_X7_isTwofold x0 = some y) : CT LM M_X7_isTwofold [vI x0] s0 (some (vI y), s0) :=
  ct_of (n := 0) (by decide) (Nat.le_of_ble_eq_true rfl) (t_X7_isTwofold_0 x0 s0  _ h)
def g_X7_readsText_253 (z0 : Int) (s0 : SS) : Option (Int × SS) :=
  some (z0, s0)
set_option maxHeartbeats 4000000 in
theorem t_X7_readsText_253  : ∀ (z0 : Int) (s0 : SS) (r : (Int × SS)), g_X7_readsText_253 z0 s0 = some r → AW LM M_X7_readsText (some (vI r.1), r.2) 253 [none, none, none, none, none] [vI z0] s0 := by
  intro z0 s0 r h
  unfold g_X7_readsText_253 at h
  obtain rfl := Option.some.inj h
  exact aw_iret dX7_readsText_253 rfl
def g_X7_readsText_241 (x1 : Int) (s0 : SS) : Option (Int × SS) :=
  if x1 ≤ 0 then (
    g_X7_readsText_253  (-1) s0
  ) else (
    g_X7_readsText_253  (s0 0 0) s0
  )
set_option maxHeartbeats 4000000 in
theorem t_X7_readsText_241  : ∀ (x1 : Int) (s0 : SS) (r : (Int × SS)), g_X7_readsText_241 x1 s0 = some r → AW LM M_X7_readsText (some (vI r.1), r.2) 241 [some (vR (some 0)), some (vI x1), none, none, none] [] s0 := by
  intro x1 s0 r h
  unfold g_X7_readsText_241 at h
  refine aw_iload_n dX7_readsText_241 rfl rfl ?_
  refine aw_if_le (tgt := 252) dX7_readsText_242 (by decide) (fun hc => ?_) (fun hc => ?_)
  · replace h := ip hc h
    refine aw_iconst dX7_readsText_252 ⟨by decide, by decide⟩ ?_
    exact aw_less (ls' := [none, none, none, none, none]) (trivial) (t_X7_readsText_253   (-1) s0 _ h)
  · replace h := ic hc h
    refine aw_aload_n dX7_readsText_245 rfl rfl ?_
    refine aw_getI dX7_readsText_246 fk_X7_79 pM_0 rfl ?_
    refine aw_goto (tgt := 253) dX7_readsText_249 (by decide) ?_
    exact aw_less (ls' := [none, none, none, none, none]) (trivial) (t_X7_readsText_253   (s0 0 0) s0 _ h)
def g_X7_readsText_66 (x2 : Int) (s0 : SS) : Option (Int × SS) :=
  some (x2, s0)
set_option maxHeartbeats 4000000 in
theorem t_X7_readsText_66  : ∀ (x2 : Int) (s0 : SS) (r : (Int × SS)), g_X7_readsText_66 x2 s0 = some r → AW LM M_X7_readsText (some (vI r.1), r.2) 66 [none, none, some (vI x2), none, none] [] s0 := by
  intro x2 s0 r h
  unfold g_X7_readsText_66 at h
  refine aw_iload_n dX7_readsText_66 rfl rfl ?_
  obtain rfl := Option.some.inj h
  exact aw_iret dX7_readsText_67 rfl
def g_X7_readsText_212 (x2 : Int) (s0 : SS) : Option (Int × SS) :=
  some (x2, s0)
set_option maxHeartbeats 4000000 in
theorem t_X7_readsText_212  : ∀ (x2 : Int) (s0 : SS) (r : (Int × SS)), g_X7_readsText_212 x2 s0 = some r → AW LM M_X7_readsText (some (vI r.1), r.2) 212 [none, none, some (vI x2), none, none] [] s0 := by
  intro x2 s0 r h
  unfold g_X7_readsText_212 at h
  refine aw_iload_n dX7_readsText_212 rfl rfl ?_
  obtain rfl := Option.some.inj h
  exact aw_iret dX7_readsText_213 rfl
def g_X7_readsText_228 (k25 : Int → Int → SS → Option (Int × SS)) (x1 : Int) (x2 : Int) (s0 : SS) : Option (Int × SS) :=
  sb (up s0 0 4 (wr ((s0 0 4) + 1))) fun s1 =>
  k25 x1 x2 s1
set_option maxHeartbeats 4000000 in
theorem t_X7_readsText_228 (k25 : Int → Int → SS → Option (Int × SS)) (hk25 : ∀ (x1 : Int) (x2 : Int) (s0 : SS) (r : (Int × SS)), k25 x1 x2 s0 = some r → AW LM M_X7_readsText (some (vI r.1), r.2) 25 [some (vR (some 0)), some (vI x1), some (vI x2), none, none] [] s0) : ∀ (x1 : Int) (x2 : Int) (s0 : SS) (r : (Int × SS)), g_X7_readsText_228 k25 x1 x2 s0 = some r → AW LM M_X7_readsText (some (vI r.1), r.2) 228 [some (vR (some 0)), some (vI x1), some (vI x2), none, none] [] s0 := by
  intro x1 x2 s0 r h
  unfold g_X7_readsText_228 at h
  refine aw_aload_n dX7_readsText_228 rfl rfl ?_
  refine aw_dup dX7_readsText_229 rfl ?_
  refine aw_getI dX7_readsText_230 fk_X7_93 pM_0 rfl ?_
  refine aw_iconst dX7_readsText_233 ⟨by decide, by decide⟩ ?_
  refine aw_iadd dX7_readsText_234 ?_
  refine aw_put dX7_readsText_235 fk_X7_93 pM_0 rfl ft_7_4 (nar_int _) (fun s1 e => ?_)
  replace h := sb_e h e
  clear e
  refine aw_goto (tgt := 25) dX7_readsText_238 (by decide) ?_
  exact (hk25 x1 x2 s1 _ h)
def g_X7_readsText_199 (k25 : Int → Int → SS → Option (Int × SS)) (x1 : Int) (x2 : Int) (z0 : Int) (s0 : SS) : Option (Int × SS) :=
  bn (f_X7_in z0 1 9) fun y1 =>
  if y1 = 0 then (
    g_X7_readsText_212  x2 s0
  ) else (
    gx (s0 0 4) 40 <|
    sb (up s0 3 (s0 0 4).toNat z0) fun s1 =>
    sb (wr (x2 + 1)) fun y2 =>
    g_X7_readsText_228 k25 x1 y2 s1
  )
set_option maxHeartbeats 4000000 in
theorem t_X7_readsText_199 (k25 : Int → Int → SS → Option (Int × SS)) (hk25 : ∀ (x1 : Int) (x2 : Int) (s0 : SS) (r : (Int × SS)), k25 x1 x2 s0 = some r → AW LM M_X7_readsText (some (vI r.1), r.2) 25 [some (vR (some 0)), some (vI x1), some (vI x2), none, none] [] s0) : ∀ (x1 : Int) (x2 : Int) (z0 : Int) (s0 : SS) (r : (Int × SS)), g_X7_readsText_199 k25 x1 x2 z0 s0 = some r → AW LM M_X7_readsText (some (vI r.1), r.2) 199 [some (vR (some 0)), some (vI x1), some (vI x2), none, none] [vI z0] s0 := by
  intro x1 x2 z0 s0 r h
  unfold g_X7_readsText_199 at h
  refine aw_istoreA dX7_readsText_199 (by decide) rfl ?_
  show AW _ _ _ 201 [some (vR (some 0)), some (vI x1), some (vI x2), none, some (vI z0)] _ _
  refine aw_iload dX7_readsText_201 rfl ?_
  refine aw_iconst dX7_readsText_203 ⟨by decide, by decide⟩ ?_
  refine aw_bipush dX7_readsText_204 ⟨by decide, by decide⟩ (by decide) ?_
  obtain ⟨y1, hg1, h⟩ := bn_e h
  refine aw_S3i (M2 := M_X7_in) dX7_readsText_206 lk_X7_75 mk_X7_in ms_X7_in ⟨by decide, by decide⟩ (Nat.le_of_ble_eq_true rfl) (c_X7_in  hg1) ?_
  refine aw_if_ne (tgt := 214) dX7_readsText_209 (by decide) (fun hc => ?_) (fun hc => ?_)
  rotate_left
  · replace h := ip hc h
    exact aw_less (ls' := [none, none, some (vI x2), none, none]) (⟨rfl, trivial⟩) (t_X7_readsText_212   x2 s0 _ h)
  · replace h := ic hc h
    refine aw_aload_n dX7_readsText_214 rfl rfl ?_
    refine aw_getR (t := 3) dX7_readsText_215 fk_X7_20 pM_0 rfl ?_
    refine aw_aload_n dX7_readsText_218 rfl rfl ?_
    refine aw_getI dX7_readsText_219 fk_X7_93 pM_0 rfl ?_
    refine aw_iload dX7_readsText_222 rfl ?_
    obtain ⟨hg2, h⟩ := gx_e h
    refine aw_iast dX7_readsText_224 aM_3 hg2 (fun s1 e => ?_)
    replace h := sb_e h e
    clear e
    refine aw_iinc dX7_readsText_225 rfl (by decide) rfl (fun y2 e => ?_)
    replace h := sb_e h e
    clear e
    show AW _ _ _ 228 [some (vR (some 0)), some (vI x1), some (vI y2), none, some (vI z0)] _ _
    exact aw_less (ls' := [some (vR (some 0)), some (vI x1), some (vI y2), none, none]) (⟨rfl, ⟨rfl, ⟨rfl, trivial⟩⟩⟩) (t_X7_readsText_228 k25 hk25 x1 y2 s1 _ h)
def g_X7_readsText_168 (k25 : Int → Int → SS → Option (Int × SS)) (x2 : Int) (x3 : Int) (z0 : Int) (z1 : Int) (s0 : SS) : Option (Int × SS) :=
  sb (wr (z1 + z0)) fun y1 =>
  sb (wr (x2 + 1)) fun y2 =>
  if x3 = 4 then (
    if (s0 0 0) ≤ y2 then (
      g_X7_readsText_199 k25 y1 y2 (-1) s0
    ) else (
      gx y2 40 <|
      g_X7_readsText_199 k25 y1 y2 (wr ((s0 1 y2.toNat) - 48)) s0
    )
  ) else (
    g_X7_readsText_228 k25 y1 y2 s0
  )
set_option maxHeartbeats 4000000 in
theorem t_X7_readsText_168 (k25 : Int → Int → SS → Option (Int × SS)) (hk25 : ∀ (x1 : Int) (x2 : Int) (s0 : SS) (r : (Int × SS)), k25 x1 x2 s0 = some r → AW LM M_X7_readsText (some (vI r.1), r.2) 25 [some (vR (some 0)), some (vI x1), some (vI x2), none, none] [] s0) : ∀ (x2 : Int) (x3 : Int) (z0 : Int) (z1 : Int) (s0 : SS) (r : (Int × SS)), g_X7_readsText_168 k25 x2 x3 z0 z1 s0 = some r → AW LM M_X7_readsText (some (vI r.1), r.2) 168 [some (vR (some 0)), none, some (vI x2), some (vI x3), none] [vI z0, vI z1] s0 := by
  intro x2 x3 z0 z1 s0 r h
  unfold g_X7_readsText_168 at h
  refine aw_iadd dX7_readsText_168 ?_
  refine aw_istore_n dX7_readsText_169 rfl (by decide) rfl (fun y1 e => ?_)
  replace h := sb_e h e
  clear e
  show AW _ _ _ 170 [some (vR (some 0)), some (vI y1), some (vI x2), some (vI x3), none] _ _
  refine aw_iinc dX7_readsText_170 rfl (by decide) rfl (fun y2 e => ?_)
  replace h := sb_e h e
  clear e
  show AW _ _ _ 173 [some (vR (some 0)), some (vI y1), some (vI y2), some (vI x3), none] _ _
  refine aw_iload_n dX7_readsText_173 rfl rfl ?_
  refine aw_iconst dX7_readsText_174 ⟨by decide, by decide⟩ ?_
  refine aw_icmp_ne (tgt := 228) dX7_readsText_175 (by decide) (fun hc => ?_) (fun hc => ?_)
  rotate_left
  · replace h := ip hc h
    refine aw_iload_n dX7_readsText_178 rfl rfl ?_
    refine aw_aload_n dX7_readsText_179 rfl rfl ?_
    refine aw_getI dX7_readsText_180 fk_X7_79 pM_0 rfl ?_
    refine aw_icmp_ge (tgt := 198) dX7_readsText_183 (by decide) (fun hc => ?_) (fun hc => ?_)
    · replace h := ip hc h
      refine aw_iconst dX7_readsText_198 ⟨by decide, by decide⟩ ?_
      exact aw_less (ls' := [some (vR (some 0)), some (vI y1), some (vI y2), none, none]) (⟨rfl, ⟨rfl, ⟨rfl, trivial⟩⟩⟩) (t_X7_readsText_199 k25 hk25 y1 y2 (-1) s0 _ h)
    · replace h := ic hc h
      refine aw_aload_n dX7_readsText_186 rfl rfl ?_
      refine aw_getR (t := 1) dX7_readsText_187 fk_X7_7 pM_0 rfl ?_
      refine aw_iload_n dX7_readsText_190 rfl rfl ?_
      obtain ⟨hg1, h⟩ := gx_e h
      refine aw_iald dX7_readsText_191 aM_1 hg1 ?_
      refine aw_bipush dX7_readsText_192 ⟨by decide, by decide⟩ (by decide) ?_
      refine aw_isub dX7_readsText_194 ?_
      refine aw_goto (tgt := 199) dX7_readsText_195 (by decide) ?_
      exact aw_less (ls' := [some (vR (some 0)), some (vI y1), some (vI y2), none, none]) (⟨rfl, ⟨rfl, ⟨rfl, trivial⟩⟩⟩) (t_X7_readsText_199 k25 hk25 y1 y2 (wr ((s0 1 y2.toNat) - 48)) s0 _ h)
  · replace h := ic hc h
    exact aw_less (ls' := [some (vR (some 0)), some (vI y1), some (vI y2), none, none]) (⟨rfl, ⟨rfl, ⟨rfl, trivial⟩⟩⟩) (t_X7_readsText_228 k25 hk25 y1 y2 s0 _ h)
def g_X7_readsText_143 (k25 : Int → Int → SS → Option (Int × SS)) (x1 : Int) (x2 : Int) (x3 : Int) (z0 : Int) (z1 : Int) (s0 : SS) : Option (Int × SS) :=
  sb (up s0 0 5 (wr (z1 + z0))) fun s1 =>
  if x3 = 0 then (
    g_X7_readsText_168 k25 x2 x3 (-1) x1 s1
  ) else (
    bn (f_X7_isTwofold x3) fun y1 =>
    if y1 = 0 then (
      g_X7_readsText_168 k25 x2 x3 0 x1 s1
    ) else (
      g_X7_readsText_168 k25 x2 x3 1 x1 s1
    )
  )
set_option maxHeartbeats 4000000 in
theorem t_X7_readsText_143 (k25 : Int → Int → SS → Option (Int × SS)) (hk25 : ∀ (x1 : Int) (x2 : Int) (s0 : SS) (r : (Int × SS)), k25 x1 x2 s0 = some r → AW LM M_X7_readsText (some (vI r.1), r.2) 25 [some (vR (some 0)), some (vI x1), some (vI x2), none, none] [] s0) : ∀ (x1 : Int) (x2 : Int) (x3 : Int) (z0 : Int) (z1 : Int) (s0 : SS) (r : (Int × SS)), g_X7_readsText_143 k25 x1 x2 x3 z0 z1 s0 = some r → AW LM M_X7_readsText (some (vI r.1), r.2) 143 [some (vR (some 0)), some (vI x1), some (vI x2), some (vI x3), none] [vI z0, vI z1, vR (some 0)] s0 := by
  intro x1 x2 x3 z0 z1 s0 r h
  unfold g_X7_readsText_143 at h
  refine aw_iadd dX7_readsText_143 ?_
  refine aw_put dX7_readsText_144 fk_X7_96 pM_0 rfl ft_7_5 (nar_int _) (fun s1 e => ?_)
  replace h := sb_e h e
  clear e
  refine aw_iload_n dX7_readsText_147 rfl rfl ?_
  refine aw_iload_n dX7_readsText_148 rfl rfl ?_
  refine aw_if_ne (tgt := 156) dX7_readsText_149 (by decide) (fun hc => ?_) (fun hc => ?_)
  rotate_left
  · replace h := ip hc h
    refine aw_iconst dX7_readsText_152 ⟨by decide, by decide⟩ ?_
    refine aw_goto (tgt := 168) dX7_readsText_153 (by decide) ?_
    exact aw_less (ls' := [some (vR (some 0)), none, some (vI x2), some (vI x3), none]) (⟨rfl, ⟨rfl, ⟨rfl, trivial⟩⟩⟩) (t_X7_readsText_168 k25 hk25 x2 x3 (-1) x1 s1 _ h)
  · replace h := ic hc h
    refine aw_iload_n dX7_readsText_156 rfl rfl ?_
    obtain ⟨y1, hg1, h⟩ := bn_e h
    refine aw_S1i (M2 := M_X7_isTwofold) dX7_readsText_157 lk_X7_102 mk_X7_isTwofold ms_X7_isTwofold ⟨by decide, by decide⟩ (Nat.le_of_ble_eq_true rfl) (c_X7_isTwofold  hg1) ?_
    refine aw_if_eq (tgt := 167) dX7_readsText_160 (by decide) (fun hc => ?_) (fun hc => ?_)
    · replace h := ip hc h
      refine aw_iconst dX7_readsText_167 ⟨by decide, by decide⟩ ?_
      exact aw_less (ls' := [some (vR (some 0)), none, some (vI x2), some (vI x3), none]) (⟨rfl, ⟨rfl, ⟨rfl, trivial⟩⟩⟩) (t_X7_readsText_168 k25 hk25 x2 x3 0 x1 s1 _ h)
    · replace h := ic hc h
      refine aw_iconst dX7_readsText_163 ⟨by decide, by decide⟩ ?_
      refine aw_goto (tgt := 168) dX7_readsText_164 (by decide) ?_
      exact aw_less (ls' := [some (vR (some 0)), none, some (vI x2), some (vI x3), none]) (⟨rfl, ⟨rfl, ⟨rfl, trivial⟩⟩⟩) (t_X7_readsText_168 k25 hk25 x2 x3 1 x1 s1 _ h)
def g_X7_readsText_127 (k25 : Int → Int → SS → Option (Int × SS)) (x1 : Int) (x2 : Int) (x3 : Int) (z0 : Int) (z1 : Int) (s0 : SS) : Option (Int × SS) :=
  gx z1 40 <|
  sb (up s0 3 z1.toNat z0) fun s1 =>
  if x3 = 3 then (
    g_X7_readsText_143 k25 x1 x2 x3 1 (s1 0 5) s1
  ) else (
    g_X7_readsText_143 k25 x1 x2 x3 0 (s1 0 5) s1
  )
set_option maxHeartbeats 4000000 in
theorem t_X7_readsText_127 (k25 : Int → Int → SS → Option (Int × SS)) (hk25 : ∀ (x1 : Int) (x2 : Int) (s0 : SS) (r : (Int × SS)), k25 x1 x2 s0 = some r → AW LM M_X7_readsText (some (vI r.1), r.2) 25 [some (vR (some 0)), some (vI x1), some (vI x2), none, none] [] s0) : ∀ (x1 : Int) (x2 : Int) (x3 : Int) (z0 : Int) (z1 : Int) (s0 : SS) (r : (Int × SS)), g_X7_readsText_127 k25 x1 x2 x3 z0 z1 s0 = some r → AW LM M_X7_readsText (some (vI r.1), r.2) 127 [some (vR (some 0)), some (vI x1), some (vI x2), some (vI x3), none] [vI z0, vI z1, vR (some 3)] s0 := by
  intro x1 x2 x3 z0 z1 s0 r h
  unfold g_X7_readsText_127 at h
  obtain ⟨hg1, h⟩ := gx_e h
  refine aw_iast dX7_readsText_127 aM_3 hg1 (fun s1 e => ?_)
  replace h := sb_e h e
  clear e
  refine aw_aload_n dX7_readsText_128 rfl rfl ?_
  refine aw_dup dX7_readsText_129 rfl ?_
  refine aw_getI dX7_readsText_130 fk_X7_96 pM_0 rfl ?_
  refine aw_iload_n dX7_readsText_133 rfl rfl ?_
  refine aw_iconst dX7_readsText_134 ⟨by decide, by decide⟩ ?_
  refine aw_icmp_ne (tgt := 142) dX7_readsText_135 (by decide) (fun hc => ?_) (fun hc => ?_)
  rotate_left
  · replace h := ip hc h
    refine aw_iconst dX7_readsText_138 ⟨by decide, by decide⟩ ?_
    refine aw_goto (tgt := 143) dX7_readsText_139 (by decide) ?_
    exact (t_X7_readsText_143 k25 hk25 x1 x2 x3 1 (s1 0 5) s1 _ h)
  · replace h := ic hc h
    refine aw_iconst dX7_readsText_142 ⟨by decide, by decide⟩ ?_
    exact (t_X7_readsText_143 k25 hk25 x1 x2 x3 0 (s1 0 5) s1 _ h)
def g_X7_readsText_68 (k25 : Int → Int → SS → Option (Int × SS)) (x1 : Int) (x2 : Int) (x3 : Int) (s0 : SS) : Option (Int × SS) :=
  gx (s0 0 4) 40 <|
  sb (up s0 2 (s0 0 4).toNat x3) fun s1 =>
  gx (s1 0 4) 40 <|
  sb (up s1 4 (s1 0 4).toNat x2) fun s2 =>
  if x3 = 0 then (
    gx x2 40 <|
    g_X7_readsText_127 k25 x1 x2 x3 (wr ((wr ((s2 1 x2.toNat) - 97)) + 1)) (s2 0 4) s2
  ) else (
    if x3 = 3 then (
      g_X7_readsText_127 k25 x1 x2 x3 (s2 0 5) (s2 0 4) s2
    ) else (
      g_X7_readsText_127 k25 x1 x2 x3 0 (s2 0 4) s2
    )
  )
set_option maxHeartbeats 4000000 in
theorem t_X7_readsText_68 (k25 : Int → Int → SS → Option (Int × SS)) (hk25 : ∀ (x1 : Int) (x2 : Int) (s0 : SS) (r : (Int × SS)), k25 x1 x2 s0 = some r → AW LM M_X7_readsText (some (vI r.1), r.2) 25 [some (vR (some 0)), some (vI x1), some (vI x2), none, none] [] s0) : ∀ (x1 : Int) (x2 : Int) (x3 : Int) (s0 : SS) (r : (Int × SS)), g_X7_readsText_68 k25 x1 x2 x3 s0 = some r → AW LM M_X7_readsText (some (vI r.1), r.2) 68 [some (vR (some 0)), some (vI x1), some (vI x2), some (vI x3), none] [] s0 := by
  intro x1 x2 x3 s0 r h
  unfold g_X7_readsText_68 at h
  refine aw_aload_n dX7_readsText_68 rfl rfl ?_
  refine aw_getR (t := 2) dX7_readsText_69 fk_X7_17 pM_0 rfl ?_
  refine aw_aload_n dX7_readsText_72 rfl rfl ?_
  refine aw_getI dX7_readsText_73 fk_X7_93 pM_0 rfl ?_
  refine aw_iload_n dX7_readsText_76 rfl rfl ?_
  obtain ⟨hg1, h⟩ := gx_e h
  refine aw_iast dX7_readsText_77 aM_2 hg1 (fun s1 e => ?_)
  replace h := sb_e h e
  clear e
  refine aw_aload_n dX7_readsText_78 rfl rfl ?_
  refine aw_getR (t := 4) dX7_readsText_79 fk_X7_23 pM_0 rfl ?_
  refine aw_aload_n dX7_readsText_82 rfl rfl ?_
  refine aw_getI dX7_readsText_83 fk_X7_93 pM_0 rfl ?_
  refine aw_iload_n dX7_readsText_86 rfl rfl ?_
  obtain ⟨hg2, h⟩ := gx_e h
  refine aw_iast dX7_readsText_87 aM_4 hg2 (fun s2 e => ?_)
  replace h := sb_e h e
  clear e
  refine aw_aload_n dX7_readsText_88 rfl rfl ?_
  refine aw_getR (t := 3) dX7_readsText_89 fk_X7_20 pM_0 rfl ?_
  refine aw_aload_n dX7_readsText_92 rfl rfl ?_
  refine aw_getI dX7_readsText_93 fk_X7_93 pM_0 rfl ?_
  refine aw_iload_n dX7_readsText_96 rfl rfl ?_
  refine aw_if_ne (tgt := 114) dX7_readsText_97 (by decide) (fun hc => ?_) (fun hc => ?_)
  rotate_left
  · replace h := ip hc h
    refine aw_aload_n dX7_readsText_100 rfl rfl ?_
    refine aw_getR (t := 1) dX7_readsText_101 fk_X7_7 pM_0 rfl ?_
    refine aw_iload_n dX7_readsText_104 rfl rfl ?_
    obtain ⟨hg3, h⟩ := gx_e h
    refine aw_iald dX7_readsText_105 aM_1 hg3 ?_
    refine aw_bipush dX7_readsText_106 ⟨by decide, by decide⟩ (by decide) ?_
    refine aw_isub dX7_readsText_108 ?_
    refine aw_iconst dX7_readsText_109 ⟨by decide, by decide⟩ ?_
    refine aw_iadd dX7_readsText_110 ?_
    refine aw_goto (tgt := 127) dX7_readsText_111 (by decide) ?_
    exact (t_X7_readsText_127 k25 hk25 x1 x2 x3 (wr ((wr ((s2 1 x2.toNat) - 97)) + 1)) (s2 0 4) s2 _ h)
  · replace h := ic hc h
    refine aw_iload_n dX7_readsText_114 rfl rfl ?_
    refine aw_iconst dX7_readsText_115 ⟨by decide, by decide⟩ ?_
    refine aw_icmp_ne (tgt := 126) dX7_readsText_116 (by decide) (fun hc => ?_) (fun hc => ?_)
    rotate_left
    · replace h := ip hc h
      refine aw_aload_n dX7_readsText_119 rfl rfl ?_
      refine aw_getI dX7_readsText_120 fk_X7_96 pM_0 rfl ?_
      refine aw_goto (tgt := 127) dX7_readsText_123 (by decide) ?_
      exact (t_X7_readsText_127 k25 hk25 x1 x2 x3 (s2 0 5) (s2 0 4) s2 _ h)
    · replace h := ic hc h
      refine aw_iconst dX7_readsText_126 ⟨by decide, by decide⟩ ?_
      exact (t_X7_readsText_127 k25 hk25 x1 x2 x3 0 (s2 0 4) s2 _ h)
def g_X7_readsText_25 (k25 : Int → Int → SS → Option (Int × SS)) (x1 : Int) (x2 : Int) (s0 : SS) : Option (Int × SS) :=
  if (s0 0 0) ≤ x2 then (
    g_X7_readsText_241  x1 s0
  ) else (
    gx x2 40 <|
    bn (f_X7_kindOf (s0 1 x2.toNat)) fun y1 =>
    if x1 = 0 then (
      g_X7_readsText_66  x2 s0
    ) else (
      if y1 = (-1) then (
        g_X7_readsText_66  x2 s0
      ) else (
        if y1 = 3 then (
          if (s0 0 5) = 6 then (
            g_X7_readsText_66  x2 s0
          ) else (
            g_X7_readsText_68 k25 x1 x2 y1 s0
          )
        ) else (
          g_X7_readsText_68 k25 x1 x2 y1 s0
        )
      )
    )
  )
set_option maxHeartbeats 4000000 in
theorem t_X7_readsText_25 (k25 : Int → Int → SS → Option (Int × SS)) (hk25 : ∀ (x1 : Int) (x2 : Int) (s0 : SS) (r : (Int × SS)), k25 x1 x2 s0 = some r → AW LM M_X7_readsText (some (vI r.1), r.2) 25 [some (vR (some 0)), some (vI x1), some (vI x2), none, none] [] s0) : ∀ (x1 : Int) (x2 : Int) (s0 : SS) (r : (Int × SS)), g_X7_readsText_25 k25 x1 x2 s0 = some r → AW LM M_X7_readsText (some (vI r.1), r.2) 25 [some (vR (some 0)), some (vI x1), some (vI x2), none, none] [] s0 := by
  intro x1 x2 s0 r h
  unfold g_X7_readsText_25 at h
  refine aw_iload_n dX7_readsText_25 rfl rfl ?_
  refine aw_aload_n dX7_readsText_26 rfl rfl ?_
  refine aw_getI dX7_readsText_27 fk_X7_79 pM_0 rfl ?_
  refine aw_icmp_ge (tgt := 241) dX7_readsText_30 (by decide) (fun hc => ?_) (fun hc => ?_)
  · replace h := ip hc h
    exact aw_less (ls' := [some (vR (some 0)), some (vI x1), none, none, none]) (⟨rfl, ⟨rfl, trivial⟩⟩) (t_X7_readsText_241   x1 s0 _ h)
  · replace h := ic hc h
    refine aw_aload_n dX7_readsText_33 rfl rfl ?_
    refine aw_getR (t := 1) dX7_readsText_34 fk_X7_7 pM_0 rfl ?_
    refine aw_iload_n dX7_readsText_37 rfl rfl ?_
    obtain ⟨hg1, h⟩ := gx_e h
    refine aw_iald dX7_readsText_38 aM_1 hg1 ?_
    obtain ⟨y1, hg2, h⟩ := bn_e h
    refine aw_S1i (M2 := M_X7_kindOf) dX7_readsText_39 lk_X7_99 mk_X7_kindOf ms_X7_kindOf ⟨by decide, by decide⟩ (Nat.le_of_ble_eq_true rfl) (c_X7_kindOf  hg2) ?_
    refine aw_istore_nA dX7_readsText_42 rfl (by decide) rfl ?_
    show AW _ _ _ 43 [some (vR (some 0)), some (vI x1), some (vI x2), some (vI y1), none] _ _
    refine aw_iload_n dX7_readsText_43 rfl rfl ?_
    refine aw_if_eq (tgt := 66) dX7_readsText_44 (by decide) (fun hc => ?_) (fun hc => ?_)
    · replace h := ip hc h
      exact aw_less (ls' := [none, none, some (vI x2), none, none]) (⟨rfl, trivial⟩) (t_X7_readsText_66   x2 s0 _ h)
    · replace h := ic hc h
      refine aw_iload_n dX7_readsText_47 rfl rfl ?_
      refine aw_iconst dX7_readsText_48 ⟨by decide, by decide⟩ ?_
      refine aw_icmp_eq (tgt := 66) dX7_readsText_49 (by decide) (fun hc => ?_) (fun hc => ?_)
      · replace h := ip hc h
        exact aw_less (ls' := [none, none, some (vI x2), none, none]) (⟨rfl, trivial⟩) (t_X7_readsText_66   x2 s0 _ h)
      · replace h := ic hc h
        refine aw_iload_n dX7_readsText_52 rfl rfl ?_
        refine aw_iconst dX7_readsText_53 ⟨by decide, by decide⟩ ?_
        refine aw_icmp_ne (tgt := 68) dX7_readsText_54 (by decide) (fun hc => ?_) (fun hc => ?_)
        rotate_left
        · replace h := ip hc h
          refine aw_aload_n dX7_readsText_57 rfl rfl ?_
          refine aw_getI dX7_readsText_58 fk_X7_96 pM_0 rfl ?_
          refine aw_bipush dX7_readsText_61 ⟨by decide, by decide⟩ (by decide) ?_
          refine aw_icmp_ne (tgt := 68) dX7_readsText_63 (by decide) (fun hc => ?_) (fun hc => ?_)
          rotate_left
          · replace h := ip hc h
            exact aw_less (ls' := [none, none, some (vI x2), none, none]) (⟨rfl, trivial⟩) (t_X7_readsText_66   x2 s0 _ h)
          · replace h := ic hc h
            exact (t_X7_readsText_68 k25 hk25 x1 x2 y1 s0 _ h)
        · replace h := ic hc h
          exact (t_X7_readsText_68 k25 hk25 x1 x2 y1 s0 _ h)
def f_X7_readsText_25 : Nat → Int → Int → SS → Option (Int × SS)
  | 0 => fun _ _ _ => none
  | n + 1 => g_X7_readsText_25 (f_X7_readsText_25  n)
theorem s_X7_readsText_25  : ∀ (n : Nat), ∀ (x1 : Int) (x2 : Int) (s0 : SS) (r : (Int × SS)), f_X7_readsText_25 n x1 x2 s0 = some r → AW LM M_X7_readsText (some (vI r.1), r.2) 25 [some (vR (some 0)), some (vI x1), some (vI x2), none, none] [] s0 := by
  intro n
  induction n with
  | zero =>
    intro x1 x2 s0 r h
    cases h
  | succ n ih =>
    intro x1 x2 s0 r h
    exact t_X7_readsText_25 (f_X7_readsText_25  n) ih x1 x2 s0 r h
def g_X7_readsText_22 (z0 : Int) (s0 : SS) : Option (Int × SS) :=
  f_X7_readsText_25  FU z0 0 s0
set_option maxHeartbeats 4000000 in
theorem t_X7_readsText_22  : ∀ (z0 : Int) (s0 : SS) (r : (Int × SS)), g_X7_readsText_22 z0 s0 = some r → AW LM M_X7_readsText (some (vI r.1), r.2) 22 [some (vR (some 0)), none, none, none, none] [vI z0] s0 := by
  intro z0 s0 r h
  unfold g_X7_readsText_22 at h
  refine aw_istore_nA dX7_readsText_22 rfl (by decide) rfl ?_
  show AW _ _ _ 23 [some (vR (some 0)), some (vI z0), none, none, none] _ _
  refine aw_iconst dX7_readsText_23 ⟨by decide, by decide⟩ ?_
  refine aw_istore_nA dX7_readsText_24 rfl (by decide) rfl ?_
  show AW _ _ _ 25 [some (vR (some 0)), some (vI z0), some (vI 0), none, none] _ _
  exact (s_X7_readsText_25   FU z0 0 s0 _ h)
def f_X7_readsText  (s0 : SS) : Option (Int × SS) :=
  sb (up s0 0 4 0) fun s1 =>
  sb (up s1 0 5 0) fun s2 =>
  if (s2 0 0) ≤ 0 then (
    g_X7_readsText_22  0 s2
  ) else (
    g_X7_readsText_22  1 s2
  )
set_option maxHeartbeats 4000000 in
theorem t_X7_readsText_0  : ∀ (s0 : SS) (r : (Int × SS)), f_X7_readsText s0 = some r → AW LM M_X7_readsText (some (vI r.1), r.2) 0 [some (vR (some 0)), none, none, none, none] [] s0 := by
  intro s0 r h
  unfold f_X7_readsText at h
  refine aw_aload_n dX7_readsText_0 rfl rfl ?_
  refine aw_iconst dX7_readsText_1 ⟨by decide, by decide⟩ ?_
  refine aw_put dX7_readsText_2 fk_X7_93 pM_0 rfl ft_7_4 (nar_int _) (fun s1 e => ?_)
  replace h := sb_e h e
  clear e
  refine aw_aload_n dX7_readsText_5 rfl rfl ?_
  refine aw_iconst dX7_readsText_6 ⟨by decide, by decide⟩ ?_
  refine aw_put dX7_readsText_7 fk_X7_96 pM_0 rfl ft_7_5 (nar_int _) (fun s2 e => ?_)
  replace h := sb_e h e
  clear e
  refine aw_aload_n dX7_readsText_10 rfl rfl ?_
  refine aw_getI dX7_readsText_11 fk_X7_79 pM_0 rfl ?_
  refine aw_if_le (tgt := 21) dX7_readsText_14 (by decide) (fun hc => ?_) (fun hc => ?_)
  · replace h := ip hc h
    refine aw_iconst dX7_readsText_21 ⟨by decide, by decide⟩ ?_
    exact (t_X7_readsText_22   0 s2 _ h)
  · replace h := ic hc h
    refine aw_iconst dX7_readsText_17 ⟨by decide, by decide⟩ ?_
    refine aw_goto (tgt := 22) dX7_readsText_18 (by decide) ?_
    exact (t_X7_readsText_22   1 s2 _ h)
theorem c_X7_readsText {s0 : SS} {y : Int} {s1 : SS} (h : f_X7_readsText s0 = some (y, s1)) : CT LM M_X7_readsText [vR (some 0)] s0 (some (vI y), s1) :=
  ct_of (n := 4) (by decide) (Nat.le_of_ble_eq_true rfl) (t_X7_readsText_0  s0  _ h)
def g_X7_reads_202  (s0 : SS) : Option SS :=
  gx 0 40 <|
  sb (up s0 8 (0 : Int).toNat (-1)) fun s1 =>
  some s1
set_option maxHeartbeats 4000000 in
theorem t_X7_reads_202  : ∀ (s0 : SS) (r : SS), g_X7_reads_202 s0 = some r → AW LM M_X7_reads (none, r) 202 [some (vR (some 0)), none, none, none] [] s0 := by
  intro s0 r h
  unfold g_X7_reads_202 at h
  refine aw_aload_n dX7_reads_202 rfl rfl ?_
  refine aw_getR (t := 8) dX7_reads_203 fk_X7_35 pM_0 rfl ?_
  refine aw_iconst dX7_reads_206 ⟨by decide, by decide⟩ ?_
  refine aw_iconst dX7_reads_207 ⟨by decide, by decide⟩ ?_
  obtain ⟨hg1, h⟩ := gx_e h
  refine aw_iast dX7_reads_208 aM_8 hg1 (fun s1 e => ?_)
  replace h := sb_e h e
  clear e
  obtain rfl := Option.some.inj h
  exact aw_vret dX7_reads_209 rfl
def g_X7_reads_196 (k55 : Int → SS → Option SS) (x1 : Int) (s0 : SS) : Option SS :=
  sb (wr (x1 + (-1))) fun y1 =>
  k55 y1 s0
set_option maxHeartbeats 4000000 in
theorem t_X7_reads_196 (k55 : Int → SS → Option SS) (hk55 : ∀ (x1 : Int) (s0 : SS) (r : SS), k55 x1 s0 = some r → AW LM M_X7_reads (none, r) 55 [some (vR (some 0)), some (vI x1), none, none] [] s0) : ∀ (x1 : Int) (s0 : SS) (r : SS), g_X7_reads_196 k55 x1 s0 = some r → AW LM M_X7_reads (none, r) 196 [some (vR (some 0)), some (vI x1), none, none] [] s0 := by
  intro x1 s0 r h
  unfold g_X7_reads_196 at h
  refine aw_iinc dX7_reads_196 rfl (by decide) rfl (fun y1 e => ?_)
  replace h := sb_e h e
  clear e
  show AW _ _ _ 199 [some (vR (some 0)), some (vI y1), none, none] _ _
  refine aw_goto (tgt := 55) dX7_reads_199 (by decide) ?_
  exact (hk55 y1 s0 _ h)
def g_X7_reads_136 (k55 : Int → SS → Option SS) (x1 : Int) (x2 : Int) (s0 : SS) : Option SS :=
  bn (f_X7_isTwofold x2) fun y1 =>
  if y1 = 0 then (
    g_X7_reads_196 k55 x1 s0
  ) else (
    gx x1 40 <|
    sb (wr (x1 + (s0 6 x1.toNat))) fun y2 =>
    gx x1 40 <|
    sb (up s0 7 x1.toNat y2) fun s1 =>
    gx y2 40 <|
    sb (up s1 8 y2.toNat x1) fun s2 =>
    gx x1 40 <|
    gx y2 40 <|
    gx x1 40 <|
    sb (up s2 5 x1.toNat (wr ((s2 5 x1.toNat) + (s2 5 y2.toNat)))) fun s3 =>
    gx x1 40 <|
    gx y2 40 <|
    gx x1 40 <|
    sb (up s3 6 x1.toNat (wr ((s3 6 x1.toNat) + (s3 6 y2.toNat)))) fun s4 =>
    g_X7_reads_196 k55 x1 s4
  )
set_option maxHeartbeats 4000000 in
theorem t_X7_reads_136 (k55 : Int → SS → Option SS) (hk55 : ∀ (x1 : Int) (s0 : SS) (r : SS), k55 x1 s0 = some r → AW LM M_X7_reads (none, r) 55 [some (vR (some 0)), some (vI x1), none, none] [] s0) : ∀ (x1 : Int) (x2 : Int) (s0 : SS) (r : SS), g_X7_reads_136 k55 x1 x2 s0 = some r → AW LM M_X7_reads (none, r) 136 [some (vR (some 0)), some (vI x1), some (vI x2), none] [] s0 := by
  intro x1 x2 s0 r h
  unfold g_X7_reads_136 at h
  refine aw_iload_n dX7_reads_136 rfl rfl ?_
  obtain ⟨y1, hg1, h⟩ := bn_e h
  refine aw_S1i (M2 := M_X7_isTwofold) dX7_reads_137 lk_X7_102 mk_X7_isTwofold ms_X7_isTwofold ⟨by decide, by decide⟩ (Nat.le_of_ble_eq_true rfl) (c_X7_isTwofold  hg1) ?_
  refine aw_if_eq (tgt := 196) dX7_reads_140 (by decide) (fun hc => ?_) (fun hc => ?_)
  · replace h := ip hc h
    exact aw_less (ls' := [some (vR (some 0)), some (vI x1), none, none]) (⟨rfl, ⟨rfl, trivial⟩⟩) (t_X7_reads_196 k55 hk55 x1 s0 _ h)
  · replace h := ic hc h
    refine aw_iload_n dX7_reads_143 rfl rfl ?_
    refine aw_aload_n dX7_reads_144 rfl rfl ?_
    refine aw_getR (t := 6) dX7_reads_145 fk_X7_29 pM_0 rfl ?_
    refine aw_iload_n dX7_reads_148 rfl rfl ?_
    obtain ⟨hg2, h⟩ := gx_e h
    refine aw_iald dX7_reads_149 aM_6 hg2 ?_
    refine aw_iadd dX7_reads_150 ?_
    refine aw_istore_n dX7_reads_151 rfl (by decide) rfl (fun y2 e => ?_)
    replace h := sb_e h e
    clear e
    show AW _ _ _ 152 [some (vR (some 0)), some (vI x1), some (vI x2), some (vI y2)] _ _
    refine aw_aload_n dX7_reads_152 rfl rfl ?_
    refine aw_getR (t := 7) dX7_reads_153 fk_X7_32 pM_0 rfl ?_
    refine aw_iload_n dX7_reads_156 rfl rfl ?_
    refine aw_iload_n dX7_reads_157 rfl rfl ?_
    obtain ⟨hg3, h⟩ := gx_e h
    refine aw_iast dX7_reads_158 aM_7 hg3 (fun s1 e => ?_)
    replace h := sb_e h e
    clear e
    refine aw_aload_n dX7_reads_159 rfl rfl ?_
    refine aw_getR (t := 8) dX7_reads_160 fk_X7_35 pM_0 rfl ?_
    refine aw_iload_n dX7_reads_163 rfl rfl ?_
    refine aw_iload_n dX7_reads_164 rfl rfl ?_
    obtain ⟨hg4, h⟩ := gx_e h
    refine aw_iast dX7_reads_165 aM_8 hg4 (fun s2 e => ?_)
    replace h := sb_e h e
    clear e
    refine aw_aload_n dX7_reads_166 rfl rfl ?_
    refine aw_getR (t := 5) dX7_reads_167 fk_X7_26 pM_0 rfl ?_
    refine aw_iload_n dX7_reads_170 rfl rfl ?_
    refine aw_dup2 dX7_reads_171 rfl rfl ?_
    obtain ⟨hg5, h⟩ := gx_e h
    refine aw_iald dX7_reads_172 aM_5 hg5 ?_
    refine aw_aload_n dX7_reads_173 rfl rfl ?_
    refine aw_getR (t := 5) dX7_reads_174 fk_X7_26 pM_0 rfl ?_
    refine aw_iload_n dX7_reads_177 rfl rfl ?_
    obtain ⟨hg6, h⟩ := gx_e h
    refine aw_iald dX7_reads_178 aM_5 hg6 ?_
    refine aw_iadd dX7_reads_179 ?_
    obtain ⟨hg7, h⟩ := gx_e h
    refine aw_iast dX7_reads_180 aM_5 hg7 (fun s3 e => ?_)
    replace h := sb_e h e
    clear e
    refine aw_aload_n dX7_reads_181 rfl rfl ?_
    refine aw_getR (t := 6) dX7_reads_182 fk_X7_29 pM_0 rfl ?_
    refine aw_iload_n dX7_reads_185 rfl rfl ?_
    refine aw_dup2 dX7_reads_186 rfl rfl ?_
    obtain ⟨hg8, h⟩ := gx_e h
    refine aw_iald dX7_reads_187 aM_6 hg8 ?_
    refine aw_aload_n dX7_reads_188 rfl rfl ?_
    refine aw_getR (t := 6) dX7_reads_189 fk_X7_29 pM_0 rfl ?_
    refine aw_iload_n dX7_reads_192 rfl rfl ?_
    obtain ⟨hg9, h⟩ := gx_e h
    refine aw_iald dX7_reads_193 aM_6 hg9 ?_
    refine aw_iadd dX7_reads_194 ?_
    obtain ⟨hg10, h⟩ := gx_e h
    refine aw_iast dX7_reads_195 aM_6 hg10 (fun s4 e => ?_)
    replace h := sb_e h e
    clear e
    exact aw_less (ls' := [some (vR (some 0)), some (vI x1), none, none]) (⟨rfl, ⟨rfl, trivial⟩⟩) (t_X7_reads_196 k55 hk55 x1 s4 _ h)
def g_X7_reads_81 (k55 : Int → SS → Option SS) (x1 : Int) (x2 : Int) (z0 : Int) (z1 : Int) (s0 : SS) : Option SS :=
  gx z1 40 <|
  sb (up s0 5 z1.toNat z0) fun s1 =>
  gx x1 40 <|
  sb (up s1 6 x1.toNat 1) fun s2 =>
  if x2 = 0 then (
    g_X7_reads_136 k55 x1 x2 s2
  ) else (
    gx (wr (x1 + 1)) 40 <|
    sb (up s2 8 (wr (x1 + 1)).toNat x1) fun s3 =>
    gx x1 40 <|
    gx (wr (x1 + 1)) 40 <|
    gx x1 40 <|
    sb (up s3 5 x1.toNat (wr ((s3 5 x1.toNat) + (s3 5 (wr (x1 + 1)).toNat)))) fun s4 =>
    gx x1 40 <|
    gx (wr (x1 + 1)) 40 <|
    gx x1 40 <|
    sb (up s4 6 x1.toNat (wr ((s4 6 x1.toNat) + (s4 6 (wr (x1 + 1)).toNat)))) fun s5 =>
    g_X7_reads_136 k55 x1 x2 s5
  )
set_option maxHeartbeats 4000000 in
theorem t_X7_reads_81 (k55 : Int → SS → Option SS) (hk55 : ∀ (x1 : Int) (s0 : SS) (r : SS), k55 x1 s0 = some r → AW LM M_X7_reads (none, r) 55 [some (vR (some 0)), some (vI x1), none, none] [] s0) : ∀ (x1 : Int) (x2 : Int) (z0 : Int) (z1 : Int) (s0 : SS) (r : SS), g_X7_reads_81 k55 x1 x2 z0 z1 s0 = some r → AW LM M_X7_reads (none, r) 81 [some (vR (some 0)), some (vI x1), some (vI x2), none] [vI z0, vI z1, vR (some 5)] s0 := by
  intro x1 x2 z0 z1 s0 r h
  unfold g_X7_reads_81 at h
  obtain ⟨hg1, h⟩ := gx_e h
  refine aw_iast dX7_reads_81 aM_5 hg1 (fun s1 e => ?_)
  replace h := sb_e h e
  clear e
  refine aw_aload_n dX7_reads_82 rfl rfl ?_
  refine aw_getR (t := 6) dX7_reads_83 fk_X7_29 pM_0 rfl ?_
  refine aw_iload_n dX7_reads_86 rfl rfl ?_
  refine aw_iconst dX7_reads_87 ⟨by decide, by decide⟩ ?_
  obtain ⟨hg2, h⟩ := gx_e h
  refine aw_iast dX7_reads_88 aM_6 hg2 (fun s2 e => ?_)
  replace h := sb_e h e
  clear e
  refine aw_iload_n dX7_reads_89 rfl rfl ?_
  refine aw_if_eq (tgt := 136) dX7_reads_90 (by decide) (fun hc => ?_) (fun hc => ?_)
  · replace h := ip hc h
    exact (t_X7_reads_136 k55 hk55 x1 x2 s2 _ h)
  · replace h := ic hc h
    refine aw_aload_n dX7_reads_93 rfl rfl ?_
    refine aw_getR (t := 8) dX7_reads_94 fk_X7_35 pM_0 rfl ?_
    refine aw_iload_n dX7_reads_97 rfl rfl ?_
    refine aw_iconst dX7_reads_98 ⟨by decide, by decide⟩ ?_
    refine aw_iadd dX7_reads_99 ?_
    refine aw_iload_n dX7_reads_100 rfl rfl ?_
    obtain ⟨hg3, h⟩ := gx_e h
    refine aw_iast dX7_reads_101 aM_8 hg3 (fun s3 e => ?_)
    replace h := sb_e h e
    clear e
    refine aw_aload_n dX7_reads_102 rfl rfl ?_
    refine aw_getR (t := 5) dX7_reads_103 fk_X7_26 pM_0 rfl ?_
    refine aw_iload_n dX7_reads_106 rfl rfl ?_
    refine aw_dup2 dX7_reads_107 rfl rfl ?_
    obtain ⟨hg4, h⟩ := gx_e h
    refine aw_iald dX7_reads_108 aM_5 hg4 ?_
    refine aw_aload_n dX7_reads_109 rfl rfl ?_
    refine aw_getR (t := 5) dX7_reads_110 fk_X7_26 pM_0 rfl ?_
    refine aw_iload_n dX7_reads_113 rfl rfl ?_
    refine aw_iconst dX7_reads_114 ⟨by decide, by decide⟩ ?_
    refine aw_iadd dX7_reads_115 ?_
    obtain ⟨hg5, h⟩ := gx_e h
    refine aw_iald dX7_reads_116 aM_5 hg5 ?_
    refine aw_iadd dX7_reads_117 ?_
    obtain ⟨hg6, h⟩ := gx_e h
    refine aw_iast dX7_reads_118 aM_5 hg6 (fun s4 e => ?_)
    replace h := sb_e h e
    clear e
    refine aw_aload_n dX7_reads_119 rfl rfl ?_
    refine aw_getR (t := 6) dX7_reads_120 fk_X7_29 pM_0 rfl ?_
    refine aw_iload_n dX7_reads_123 rfl rfl ?_
    refine aw_dup2 dX7_reads_124 rfl rfl ?_
    obtain ⟨hg7, h⟩ := gx_e h
    refine aw_iald dX7_reads_125 aM_6 hg7 ?_
    refine aw_aload_n dX7_reads_126 rfl rfl ?_
    refine aw_getR (t := 6) dX7_reads_127 fk_X7_29 pM_0 rfl ?_
    refine aw_iload_n dX7_reads_130 rfl rfl ?_
    refine aw_iconst dX7_reads_131 ⟨by decide, by decide⟩ ?_
    refine aw_iadd dX7_reads_132 ?_
    obtain ⟨hg8, h⟩ := gx_e h
    refine aw_iald dX7_reads_133 aM_6 hg8 ?_
    refine aw_iadd dX7_reads_134 ?_
    obtain ⟨hg9, h⟩ := gx_e h
    refine aw_iast dX7_reads_135 aM_6 hg9 (fun s5 e => ?_)
    replace h := sb_e h e
    clear e
    exact (t_X7_reads_136 k55 hk55 x1 x2 s5 _ h)
def g_X7_reads_55 (k55 : Int → SS → Option SS) (x1 : Int) (s0 : SS) : Option SS :=
  if x1 < 0 then (
    g_X7_reads_202  s0
  ) else (
    gx x1 40 <|
    sb (s0 2 x1.toNat) fun y1 =>
    if y1 = 4 then (
      g_X7_reads_81 k55 x1 y1 2 x1 s0
    ) else (
      g_X7_reads_81 k55 x1 y1 1 x1 s0
    )
  )
set_option maxHeartbeats 4000000 in
theorem t_X7_reads_55 (k55 : Int → SS → Option SS) (hk55 : ∀ (x1 : Int) (s0 : SS) (r : SS), k55 x1 s0 = some r → AW LM M_X7_reads (none, r) 55 [some (vR (some 0)), some (vI x1), none, none] [] s0) : ∀ (x1 : Int) (s0 : SS) (r : SS), g_X7_reads_55 k55 x1 s0 = some r → AW LM M_X7_reads (none, r) 55 [some (vR (some 0)), some (vI x1), none, none] [] s0 := by
  intro x1 s0 r h
  unfold g_X7_reads_55 at h
  refine aw_iload_n dX7_reads_55 rfl rfl ?_
  refine aw_if_lt (tgt := 202) dX7_reads_56 (by decide) (fun hc => ?_) (fun hc => ?_)
  · replace h := ip hc h
    exact aw_less (ls' := [some (vR (some 0)), none, none, none]) (⟨rfl, trivial⟩) (t_X7_reads_202   s0 _ h)
  · replace h := ic hc h
    refine aw_aload_n dX7_reads_59 rfl rfl ?_
    refine aw_getR (t := 2) dX7_reads_60 fk_X7_17 pM_0 rfl ?_
    refine aw_iload_n dX7_reads_63 rfl rfl ?_
    obtain ⟨hg1, h⟩ := gx_e h
    refine aw_iald dX7_reads_64 aM_2 hg1 ?_
    refine aw_istore_n dX7_reads_65 rfl (by decide) rfl (fun y1 e => ?_)
    replace h := sb_e h e
    clear e
    show AW _ _ _ 66 [some (vR (some 0)), some (vI x1), some (vI y1), none] _ _
    refine aw_aload_n dX7_reads_66 rfl rfl ?_
    refine aw_getR (t := 5) dX7_reads_67 fk_X7_26 pM_0 rfl ?_
    refine aw_iload_n dX7_reads_70 rfl rfl ?_
    refine aw_iload_n dX7_reads_71 rfl rfl ?_
    refine aw_iconst dX7_reads_72 ⟨by decide, by decide⟩ ?_
    refine aw_icmp_ne (tgt := 80) dX7_reads_73 (by decide) (fun hc => ?_) (fun hc => ?_)
    rotate_left
    · replace h := ip hc h
      refine aw_iconst dX7_reads_76 ⟨by decide, by decide⟩ ?_
      refine aw_goto (tgt := 81) dX7_reads_77 (by decide) ?_
      exact (t_X7_reads_81 k55 hk55 x1 y1 2 x1 s0 _ h)
    · replace h := ic hc h
      refine aw_iconst dX7_reads_80 ⟨by decide, by decide⟩ ?_
      exact (t_X7_reads_81 k55 hk55 x1 y1 1 x1 s0 _ h)
def f_X7_reads_55 : Nat → Int → SS → Option SS
  | 0 => fun _ _ => none
  | n + 1 => g_X7_reads_55 (f_X7_reads_55  n)
theorem s_X7_reads_55  : ∀ (n : Nat), ∀ (x1 : Int) (s0 : SS) (r : SS), f_X7_reads_55 n x1 s0 = some r → AW LM M_X7_reads (none, r) 55 [some (vR (some 0)), some (vI x1), none, none] [] s0 := by
  intro n
  induction n with
  | zero =>
    intro x1 s0 r h
    cases h
  | succ n ih =>
    intro x1 s0 r h
    exact t_X7_reads_55 (f_X7_reads_55  n) ih x1 s0 r h
def g_X7_reads_45 (z0 : Int) (s0 : SS) : Option SS :=
  sb (up s0 0 5 z0) fun s1 =>
  sb (wr ((s1 0 4) - 1)) fun y1 =>
  f_X7_reads_55  FU y1 s1
set_option maxHeartbeats 4000000 in
theorem t_X7_reads_45  : ∀ (z0 : Int) (s0 : SS) (r : SS), g_X7_reads_45 z0 s0 = some r → AW LM M_X7_reads (none, r) 45 [some (vR (some 0)), none, none, none] [vI z0, vR (some 0)] s0 := by
  intro z0 s0 r h
  unfold g_X7_reads_45 at h
  refine aw_put dX7_reads_45 fk_X7_96 pM_0 rfl ft_7_5 (nar_int _) (fun s1 e => ?_)
  replace h := sb_e h e
  clear e
  refine aw_aload_n dX7_reads_48 rfl rfl ?_
  refine aw_getI dX7_reads_49 fk_X7_93 pM_0 rfl ?_
  refine aw_iconst dX7_reads_52 ⟨by decide, by decide⟩ ?_
  refine aw_isub dX7_reads_53 ?_
  refine aw_istore_n dX7_reads_54 rfl (by decide) rfl (fun y1 e => ?_)
  replace h := sb_e h e
  clear e
  show AW _ _ _ 55 [some (vR (some 0)), some (vI y1), none, none] _ _
  exact (s_X7_reads_55   FU y1 s1 _ h)
def g_X7_reads_25 (z0 : Int) (s0 : SS) : Option SS :=
  sb (up s0 0 4 z0) fun s1 =>
  if (s1 0 3) = (-1) then (
    g_X7_reads_45  (s1 0 5) s1
  ) else (
    g_X7_reads_45  0 s1
  )
set_option maxHeartbeats 4000000 in
theorem t_X7_reads_25  : ∀ (z0 : Int) (s0 : SS) (r : SS), g_X7_reads_25 z0 s0 = some r → AW LM M_X7_reads (none, r) 25 [some (vR (some 0)), none, none, none] [vI z0, vR (some 0)] s0 := by
  intro z0 s0 r h
  unfold g_X7_reads_25 at h
  refine aw_put dX7_reads_25 fk_X7_93 pM_0 rfl ft_7_4 (nar_int _) (fun s1 e => ?_)
  replace h := sb_e h e
  clear e
  refine aw_aload_n dX7_reads_28 rfl rfl ?_
  refine aw_aload_n dX7_reads_29 rfl rfl ?_
  refine aw_getI dX7_reads_30 fk_X7_109 pM_0 rfl ?_
  refine aw_iconst dX7_reads_33 ⟨by decide, by decide⟩ ?_
  refine aw_icmp_ne (tgt := 44) dX7_reads_34 (by decide) (fun hc => ?_) (fun hc => ?_)
  rotate_left
  · replace h := ip hc h
    refine aw_aload_n dX7_reads_37 rfl rfl ?_
    refine aw_getI dX7_reads_38 fk_X7_96 pM_0 rfl ?_
    refine aw_goto (tgt := 45) dX7_reads_41 (by decide) ?_
    exact (t_X7_reads_45   (s1 0 5) s1 _ h)
  · replace h := ic hc h
    refine aw_iconst dX7_reads_44 ⟨by decide, by decide⟩ ?_
    exact (t_X7_reads_45   0 s1 _ h)
def f_X7_reads  (s0 : SS) : Option SS :=
  cb (f_X7_readsText s0) fun y1 s1 =>
  sb (up s1 0 3 y1) fun s2 =>
  if (s2 0 3) = (-1) then (
    g_X7_reads_25  (s2 0 4) s2
  ) else (
    g_X7_reads_25  0 s2
  )
set_option maxHeartbeats 4000000 in
theorem t_X7_reads_0  : ∀ (s0 : SS) (r : SS), f_X7_reads s0 = some r → AW LM M_X7_reads (none, r) 0 [some (vR (some 0)), none, none, none] [] s0 := by
  intro s0 r h
  unfold f_X7_reads at h
  refine aw_aload_n dX7_reads_0 rfl rfl ?_
  refine aw_aload_n dX7_reads_1 rfl rfl ?_
  obtain ⟨y1, s1, hg1, h⟩ := cb_e h
  refine aw_V0i (M2 := M_X7_readsText) dX7_reads_2 lk_X7_105 mk_X7_readsText mv_X7_readsText ⟨by decide, by decide⟩ pM_0 ⟨_, _, rfl⟩ (Nat.le_of_ble_eq_true rfl) (c_X7_readsText  hg1) ?_
  refine aw_put dX7_reads_5 fk_X7_109 pM_0 rfl ft_7_3 (nar_int _) (fun s2 e => ?_)
  replace h := sb_e h e
  clear e
  refine aw_aload_n dX7_reads_8 rfl rfl ?_
  refine aw_aload_n dX7_reads_9 rfl rfl ?_
  refine aw_getI dX7_reads_10 fk_X7_109 pM_0 rfl ?_
  refine aw_iconst dX7_reads_13 ⟨by decide, by decide⟩ ?_
  refine aw_icmp_ne (tgt := 24) dX7_reads_14 (by decide) (fun hc => ?_) (fun hc => ?_)
  rotate_left
  · replace h := ip hc h
    refine aw_aload_n dX7_reads_17 rfl rfl ?_
    refine aw_getI dX7_reads_18 fk_X7_93 pM_0 rfl ?_
    refine aw_goto (tgt := 25) dX7_reads_21 (by decide) ?_
    exact (t_X7_reads_25   (s2 0 4) s2 _ h)
  · replace h := ic hc h
    refine aw_iconst dX7_reads_24 ⟨by decide, by decide⟩ ?_
    exact (t_X7_reads_25   0 s2 _ h)
theorem c_X7_reads {s0 : SS} {s1 : SS} (h : f_X7_reads s0 = some s1) : CT LM M_X7_reads [vR (some 0)] s0 (none, s1) :=
  ct_of (n := 3) (by decide) (Nat.le_of_ble_eq_true rfl) (t_X7_reads_0  s0  _ h)
def f_X7_faultOf  (s0 : SS) : Option (Int × SS) :=
  bn (f_X7_reads s0) fun s1 =>
  some (s1 0 3, s1)
set_option maxHeartbeats 4000000 in
theorem t_X7_faultOf_0  : ∀ (s0 : SS) (r : (Int × SS)), f_X7_faultOf s0 = some r → AW LM M_X7_faultOf (some (vI r.1), r.2) 0 [some (vR (some 0))] [] s0 := by
  intro s0 r h
  unfold f_X7_faultOf at h
  refine aw_aload_n dX7_faultOf_0 rfl rfl ?_
  obtain ⟨s1, hg1, h⟩ := bn_e h
  refine aw_V0v (M2 := M_X7_reads) dX7_faultOf_1 lk_X7_112 mk_X7_reads mv_X7_reads ⟨by decide, by decide⟩ pM_0 ⟨_, _, rfl⟩ (Nat.le_of_ble_eq_true rfl) (c_X7_reads  hg1) ?_
  refine aw_aload_n dX7_faultOf_4 rfl rfl ?_
  refine aw_getI dX7_faultOf_5 fk_X7_109 pM_0 rfl ?_
  obtain rfl := Option.some.inj h
  exact aw_iret dX7_faultOf_8 rfl
theorem c_X7_faultOf {s0 : SS} {y : Int} {s1 : SS} (h : f_X7_faultOf s0 = some (y, s1)) : CT LM M_X7_faultOf [vR (some 0)] s0 (some (vI y), s1) :=
  ct_of (n := 0) (by decide) (Nat.le_of_ble_eq_true rfl) (t_X7_faultOf_0  s0  _ h)
def f_X7_fault  (s0 : SS) : Option (Int × SS) :=
  cb (f_X7_faultOf s0) fun y1 s1 =>
  some (y1, s1)
set_option maxHeartbeats 4000000 in
theorem t_X7_fault_0  : ∀ (s0 : SS) (r : (Int × SS)), f_X7_fault s0 = some r → AW LM M_X7_fault (some (vI r.1), r.2) 0 [some (vR (some 0))] [] s0 := by
  intro s0 r h
  unfold f_X7_fault at h
  refine aw_aload_n dX7_fault_0 rfl rfl ?_
  obtain ⟨y1, s1, hg1, h⟩ := cb_e h
  refine aw_V0i (M2 := M_X7_faultOf) dX7_fault_1 lk_X7_115 mk_X7_faultOf mv_X7_faultOf ⟨by decide, by decide⟩ pM_0 ⟨_, _, rfl⟩ (Nat.le_of_ble_eq_true rfl) (c_X7_faultOf  hg1) ?_
  obtain rfl := Option.some.inj h
  exact aw_iret dX7_fault_4 rfl
theorem c_X7_fault {s0 : SS} {y : Int} {s1 : SS} (h : f_X7_fault s0 = some (y, s1)) : CT LM M_X7_fault [vR (some 0)] s0 (some (vI y), s1) :=
  ct_of (n := 0) (by decide) (Nat.le_of_ble_eq_true rfl) (t_X7_fault_0  s0  _ h)
def f_X7_shape (x0 : Int) (x1 : Int) (x2 : Int) (x3 : Int) : Option Int :=
  some (i_or (i_or (i_or x0 (i_shl x1 6)) (i_shl x2 15)) (i_shl x3 24))
set_option maxHeartbeats 4000000 in
theorem t_X7_shape_0  : ∀ (x0 : Int) (x1 : Int) (x2 : Int) (x3 : Int) (s0 : SS) (r : Int), f_X7_shape x0 x1 x2 x3 = some r → AW LM M_X7_shape (some (vI r), s0) 0 [some (vI x0), some (vI x1), some (vI x2), some (vI x3)] [] s0 := by
  intro x0 x1 x2 x3 s0 r h
  unfold f_X7_shape at h
  refine aw_iload_n dX7_shape_0 rfl rfl ?_
  refine aw_iload_n dX7_shape_1 rfl rfl ?_
  refine aw_bipush dX7_shape_2 ⟨by decide, by decide⟩ (by decide) ?_
  refine aw_ishl dX7_shape_4 ?_
  refine aw_ior dX7_shape_5 ?_
  refine aw_iload_n dX7_shape_6 rfl rfl ?_
  refine aw_bipush dX7_shape_7 ⟨by decide, by decide⟩ (by decide) ?_
  refine aw_ishl dX7_shape_9 ?_
  refine aw_ior dX7_shape_10 ?_
  refine aw_iload_n dX7_shape_11 rfl rfl ?_
  refine aw_bipush dX7_shape_12 ⟨by decide, by decide⟩ (by decide) ?_
  refine aw_ishl dX7_shape_14 ?_
  refine aw_ior dX7_shape_15 ?_
  obtain rfl := Option.some.inj h
  exact aw_iret dX7_shape_16 rfl
theorem c_X7_shape {x0 : Int} {x1 : Int} {x2 : Int} {x3 : Int} {s0 : SS} {y : Int} (h : f_X7_shape x0 x1 x2 x3 = some y) : CT LM M_X7_shape [vI x0, vI x1, vI x2, vI x3] s0 (some (vI y), s0) :=
  ct_of (n := 0) (by decide) (Nat.le_of_ble_eq_true rfl) (t_X7_shape_0 x0 x1 x2 x3 s0  _ h)
def f_X7_lines (x0 : Int) : Option Int :=
  some (i_and x0 63)
set_option maxHeartbeats 4000000 in
theorem t_X7_lines_0  : ∀ (x0 : Int) (s0 : SS) (r : Int), f_X7_lines x0 = some r → AW LM M_X7_lines (some (vI r), s0) 0 [some (vI x0)] [] s0 := by
  intro x0 s0 r h
  unfold f_X7_lines at h
  refine aw_iload_n dX7_lines_0 rfl rfl ?_
  refine aw_bipush dX7_lines_1 ⟨by decide, by decide⟩ (by decide) ?_
  refine aw_iand dX7_lines_3 ?_
  obtain rfl := Option.some.inj h
  exact aw_iret dX7_lines_4 rfl
theorem c_X7_lines {x0 : Int} {s0 : SS} {y : Int} (h : f_X7_lines x0 = some y) : CT LM M_X7_lines [vI x0] s0 (some (vI y), s0) :=
  ct_of (n := 0) (by decide) (Nat.le_of_ble_eq_true rfl) (t_X7_lines_0 x0 s0  _ h)
def f_X7_last (x0 : Int) : Option Int :=
  some (i_and (i_shr x0 6) 511)
set_option maxHeartbeats 4000000 in
theorem t_X7_last_0  : ∀ (x0 : Int) (s0 : SS) (r : Int), f_X7_last x0 = some r → AW LM M_X7_last (some (vI r), s0) 0 [some (vI x0)] [] s0 := by
  intro x0 s0 r h
  unfold f_X7_last at h
  refine aw_iload_n dX7_last_0 rfl rfl ?_
  refine aw_bipush dX7_last_1 ⟨by decide, by decide⟩ (by decide) ?_
  refine aw_ishr dX7_last_3 ?_
  refine aw_sipush dX7_last_4 ⟨by decide, by decide⟩ (by decide) ?_
  refine aw_iand dX7_last_7 ?_
  obtain rfl := Option.some.inj h
  exact aw_iret dX7_last_8 rfl
theorem c_X7_last {x0 : Int} {s0 : SS} {y : Int} (h : f_X7_last x0 = some y) : CT LM M_X7_last [vI x0] s0 (some (vI y), s0) :=
  ct_of (n := 0) (by decide) (Nat.le_of_ble_eq_true rfl) (t_X7_last_0 x0 s0  _ h)
def f_X7_most (x0 : Int) : Option Int :=
  some (i_and (i_shr x0 15) 511)
set_option maxHeartbeats 4000000 in
theorem t_X7_most_0  : ∀ (x0 : Int) (s0 : SS) (r : Int), f_X7_most x0 = some r → AW LM M_X7_most (some (vI r), s0) 0 [some (vI x0)] [] s0 := by
  intro x0 s0 r h
  unfold f_X7_most at h
  refine aw_iload_n dX7_most_0 rfl rfl ?_
  refine aw_bipush dX7_most_1 ⟨by decide, by decide⟩ (by decide) ?_
  refine aw_ishr dX7_most_3 ?_
  refine aw_sipush dX7_most_4 ⟨by decide, by decide⟩ (by decide) ?_
  refine aw_iand dX7_most_7 ?_
  obtain rfl := Option.some.inj h
  exact aw_iret dX7_most_8 rfl
theorem c_X7_most {x0 : Int} {s0 : SS} {y : Int} (h : f_X7_most x0 = some y) : CT LM M_X7_most [vI x0] s0 (some (vI y), s0) :=
  ct_of (n := 0) (by decide) (Nat.le_of_ble_eq_true rfl) (t_X7_most_0 x0 s0  _ h)
def f_X7_wayOf (x0 : Int) : Option Int :=
  some (i_shr x0 24)
set_option maxHeartbeats 4000000 in
theorem t_X7_wayOf_0  : ∀ (x0 : Int) (s0 : SS) (r : Int), f_X7_wayOf x0 = some r → AW LM M_X7_wayOf (some (vI r), s0) 0 [some (vI x0)] [] s0 := by
  intro x0 s0 r h
  unfold f_X7_wayOf at h
  refine aw_iload_n dX7_wayOf_0 rfl rfl ?_
  refine aw_bipush dX7_wayOf_1 ⟨by decide, by decide⟩ (by decide) ?_
  refine aw_ishr dX7_wayOf_3 ?_
  obtain rfl := Option.some.inj h
  exact aw_iret dX7_wayOf_4 rfl
theorem c_X7_wayOf {x0 : Int} {s0 : SS} {y : Int} (h : f_X7_wayOf x0 = some y) : CT LM M_X7_wayOf [vI x0] s0 (some (vI y), s0) :=
  ct_of (n := 0) (by decide) (Nat.le_of_ble_eq_true rfl) (t_X7_wayOf_0 x0 s0  _ h)
def g_X7_max_10 (z0 : Int) : Option Int :=
  some z0
set_option maxHeartbeats 4000000 in
theorem t_X7_max_10  : ∀ (z0 : Int) (s0 : SS) (r : Int), g_X7_max_10 z0 = some r → AW LM M_X7_max (some (vI r), s0) 10 [none, none] [vI z0] s0 := by
  intro z0 s0 r h
  unfold g_X7_max_10 at h
  obtain rfl := Option.some.inj h
  exact aw_iret dX7_max_10 rfl
def f_X7_max (x0 : Int) (x1 : Int) : Option Int :=
  if x0 ≤ x1 then (
    g_X7_max_10  x1
  ) else (
    g_X7_max_10  x0
  )
set_option maxHeartbeats 4000000 in
theorem t_X7_max_0  : ∀ (x0 : Int) (x1 : Int) (s0 : SS) (r : Int), f_X7_max x0 x1 = some r → AW LM M_X7_max (some (vI r), s0) 0 [some (vI x0), some (vI x1)] [] s0 := by
  intro x0 x1 s0 r h
  unfold f_X7_max at h
  refine aw_iload_n dX7_max_0 rfl rfl ?_
  refine aw_iload_n dX7_max_1 rfl rfl ?_
  refine aw_icmp_le (tgt := 9) dX7_max_2 (by decide) (fun hc => ?_) (fun hc => ?_)
  · replace h := ip hc h
    refine aw_iload_n dX7_max_9 rfl rfl ?_
    exact aw_less (ls' := [none, none]) (trivial) (t_X7_max_10   x1 s0 _ h)
  · replace h := ic hc h
    refine aw_iload_n dX7_max_5 rfl rfl ?_
    refine aw_goto (tgt := 10) dX7_max_6 (by decide) ?_
    exact aw_less (ls' := [none, none]) (trivial) (t_X7_max_10   x0 s0 _ h)
theorem c_X7_max {x0 : Int} {x1 : Int} {s0 : SS} {y : Int} (h : f_X7_max x0 x1 = some y) : CT LM M_X7_max [vI x0, vI x1] s0 (some (vI y), s0) :=
  ct_of (n := 0) (by decide) (Nat.le_of_ble_eq_true rfl) (t_X7_max_0 x0 x1 s0  _ h)
def f_X7_both (x0 : Int) (x1 : Int) (x2 : Int) : Option Int :=
  bn (f_X7_wayOf x1) fun y1 =>
  bn (f_X7_wayOf x2) fun y2 =>
  sb (i_or y1 y2) fun y3 =>
  if x0 = 1 then (
    bn (f_X7_lines x1) fun y4 =>
    bn (f_X7_lines x2) fun y5 =>
    bn (f_X7_last x1) fun y6 =>
    bn (f_X7_last x2) fun y7 =>
    bn (f_X7_most x1) fun y8 =>
    bn (f_X7_last x1) fun y9 =>
    bn (f_X7_most x2) fun y10 =>
    bn (f_X7_max y8 (wr (y9 + y10))) fun y11 =>
    bn (f_X7_shape (wr ((wr (y4 + y5)) - 1)) (wr (y6 + y7)) y11 y3) fun y12 =>
    some y12
  ) else (
    bn (f_X7_lines x1) fun y13 =>
    bn (f_X7_lines x2) fun y14 =>
    bn (f_X7_last x2) fun y15 =>
    bn (f_X7_most x1) fun y16 =>
    bn (f_X7_most x2) fun y17 =>
    bn (f_X7_max y16 y17) fun y18 =>
    bn (f_X7_shape (wr (y13 + y14)) y15 y18 y3) fun y19 =>
    some y19
  )
set_option maxHeartbeats 4000000 in
theorem t_X7_both_0  : ∀ (x0 : Int) (x1 : Int) (x2 : Int) (s0 : SS) (r : Int), f_X7_both x0 x1 x2 = some r → AW LM M_X7_both (some (vI r), s0) 0 [some (vI x0), some (vI x1), some (vI x2), none] [] s0 := by
  intro x0 x1 x2 s0 r h
  unfold f_X7_both at h
  refine aw_iload_n dX7_both_0 rfl rfl ?_
  obtain ⟨y1, hg1, h⟩ := bn_e h
  refine aw_S1i (M2 := M_X7_wayOf) dX7_both_1 lk_X7_118 mk_X7_wayOf ms_X7_wayOf ⟨by decide, by decide⟩ (Nat.le_of_ble_eq_true rfl) (c_X7_wayOf  hg1) ?_
  refine aw_iload_n dX7_both_4 rfl rfl ?_
  obtain ⟨y2, hg2, h⟩ := bn_e h
  refine aw_S1i (M2 := M_X7_wayOf) dX7_both_5 lk_X7_118 mk_X7_wayOf ms_X7_wayOf ⟨by decide, by decide⟩ (Nat.le_of_ble_eq_true rfl) (c_X7_wayOf  hg2) ?_
  refine aw_ior dX7_both_8 ?_
  refine aw_istore_n dX7_both_9 rfl (by decide) rfl (fun y3 e => ?_)
  replace h := sb_e h e
  clear e
  show AW _ _ _ 10 [some (vI x0), some (vI x1), some (vI x2), some (vI y3)] _ _
  refine aw_iload_n dX7_both_10 rfl rfl ?_
  refine aw_iconst dX7_both_11 ⟨by decide, by decide⟩ ?_
  refine aw_icmp_ne (tgt := 56) dX7_both_12 (by decide) (fun hc => ?_) (fun hc => ?_)
  rotate_left
  · replace h := ip hc h
    refine aw_iload_n dX7_both_15 rfl rfl ?_
    obtain ⟨y4, hg3, h⟩ := bn_e h
    refine aw_S1i (M2 := M_X7_lines) dX7_both_16 lk_X7_121 mk_X7_lines ms_X7_lines ⟨by decide, by decide⟩ (Nat.le_of_ble_eq_true rfl) (c_X7_lines  hg3) ?_
    refine aw_iload_n dX7_both_19 rfl rfl ?_
    obtain ⟨y5, hg4, h⟩ := bn_e h
    refine aw_S1i (M2 := M_X7_lines) dX7_both_20 lk_X7_121 mk_X7_lines ms_X7_lines ⟨by decide, by decide⟩ (Nat.le_of_ble_eq_true rfl) (c_X7_lines  hg4) ?_
    refine aw_iadd dX7_both_23 ?_
    refine aw_iconst dX7_both_24 ⟨by decide, by decide⟩ ?_
    refine aw_isub dX7_both_25 ?_
    refine aw_iload_n dX7_both_26 rfl rfl ?_
    obtain ⟨y6, hg5, h⟩ := bn_e h
    refine aw_S1i (M2 := M_X7_last) dX7_both_27 lk_X7_124 mk_X7_last ms_X7_last ⟨by decide, by decide⟩ (Nat.le_of_ble_eq_true rfl) (c_X7_last  hg5) ?_
    refine aw_iload_n dX7_both_30 rfl rfl ?_
    obtain ⟨y7, hg6, h⟩ := bn_e h
    refine aw_S1i (M2 := M_X7_last) dX7_both_31 lk_X7_124 mk_X7_last ms_X7_last ⟨by decide, by decide⟩ (Nat.le_of_ble_eq_true rfl) (c_X7_last  hg6) ?_
    refine aw_iadd dX7_both_34 ?_
    refine aw_iload_n dX7_both_35 rfl rfl ?_
    obtain ⟨y8, hg7, h⟩ := bn_e h
    refine aw_S1i (M2 := M_X7_most) dX7_both_36 lk_X7_127 mk_X7_most ms_X7_most ⟨by decide, by decide⟩ (Nat.le_of_ble_eq_true rfl) (c_X7_most  hg7) ?_
    refine aw_iload_n dX7_both_39 rfl rfl ?_
    obtain ⟨y9, hg8, h⟩ := bn_e h
    refine aw_S1i (M2 := M_X7_last) dX7_both_40 lk_X7_124 mk_X7_last ms_X7_last ⟨by decide, by decide⟩ (Nat.le_of_ble_eq_true rfl) (c_X7_last  hg8) ?_
    refine aw_iload_n dX7_both_43 rfl rfl ?_
    obtain ⟨y10, hg9, h⟩ := bn_e h
    refine aw_S1i (M2 := M_X7_most) dX7_both_44 lk_X7_127 mk_X7_most ms_X7_most ⟨by decide, by decide⟩ (Nat.le_of_ble_eq_true rfl) (c_X7_most  hg9) ?_
    refine aw_iadd dX7_both_47 ?_
    obtain ⟨y11, hg10, h⟩ := bn_e h
    refine aw_S2i (M2 := M_X7_max) dX7_both_48 lk_X7_130 mk_X7_max ms_X7_max ⟨by decide, by decide⟩ (Nat.le_of_ble_eq_true rfl) (c_X7_max  hg10) ?_
    refine aw_iload_n dX7_both_51 rfl rfl ?_
    obtain ⟨y12, hg11, h⟩ := bn_e h
    refine aw_S4i (M2 := M_X7_shape) dX7_both_52 lk_X7_134 mk_X7_shape ms_X7_shape ⟨by decide, by decide⟩ (Nat.le_of_ble_eq_true rfl) (c_X7_shape  hg11) ?_
    obtain rfl := Option.some.inj h
    exact aw_iret dX7_both_55 rfl
  · replace h := ic hc h
    refine aw_iload_n dX7_both_56 rfl rfl ?_
    obtain ⟨y13, hg12, h⟩ := bn_e h
    refine aw_S1i (M2 := M_X7_lines) dX7_both_57 lk_X7_121 mk_X7_lines ms_X7_lines ⟨by decide, by decide⟩ (Nat.le_of_ble_eq_true rfl) (c_X7_lines  hg12) ?_
    refine aw_iload_n dX7_both_60 rfl rfl ?_
    obtain ⟨y14, hg13, h⟩ := bn_e h
    refine aw_S1i (M2 := M_X7_lines) dX7_both_61 lk_X7_121 mk_X7_lines ms_X7_lines ⟨by decide, by decide⟩ (Nat.le_of_ble_eq_true rfl) (c_X7_lines  hg13) ?_
    refine aw_iadd dX7_both_64 ?_
    refine aw_iload_n dX7_both_65 rfl rfl ?_
    obtain ⟨y15, hg14, h⟩ := bn_e h
    refine aw_S1i (M2 := M_X7_last) dX7_both_66 lk_X7_124 mk_X7_last ms_X7_last ⟨by decide, by decide⟩ (Nat.le_of_ble_eq_true rfl) (c_X7_last  hg14) ?_
    refine aw_iload_n dX7_both_69 rfl rfl ?_
    obtain ⟨y16, hg15, h⟩ := bn_e h
    refine aw_S1i (M2 := M_X7_most) dX7_both_70 lk_X7_127 mk_X7_most ms_X7_most ⟨by decide, by decide⟩ (Nat.le_of_ble_eq_true rfl) (c_X7_most  hg15) ?_
    refine aw_iload_n dX7_both_73 rfl rfl ?_
    obtain ⟨y17, hg16, h⟩ := bn_e h
    refine aw_S1i (M2 := M_X7_most) dX7_both_74 lk_X7_127 mk_X7_most ms_X7_most ⟨by decide, by decide⟩ (Nat.le_of_ble_eq_true rfl) (c_X7_most  hg16) ?_
    obtain ⟨y18, hg17, h⟩ := bn_e h
    refine aw_S2i (M2 := M_X7_max) dX7_both_77 lk_X7_130 mk_X7_max ms_X7_max ⟨by decide, by decide⟩ (Nat.le_of_ble_eq_true rfl) (c_X7_max  hg17) ?_
    refine aw_iload_n dX7_both_80 rfl rfl ?_
    obtain ⟨y19, hg18, h⟩ := bn_e h
    refine aw_S4i (M2 := M_X7_shape) dX7_both_81 lk_X7_134 mk_X7_shape ms_X7_shape ⟨by decide, by decide⟩ (Nat.le_of_ble_eq_true rfl) (c_X7_shape  hg18) ?_
    obtain rfl := Option.some.inj h
    exact aw_iret dX7_both_84 rfl
theorem c_X7_both {x0 : Int} {x1 : Int} {x2 : Int} {s0 : SS} {y : Int} (h : f_X7_both x0 x1 x2 = some y) : CT LM M_X7_both [vI x0, vI x1, vI x2] s0 (some (vI y), s0) :=
  ct_of (n := 1) (by decide) (Nat.le_of_ble_eq_true rfl) (t_X7_both_0 x0 x1 x2 s0  _ h)
end
