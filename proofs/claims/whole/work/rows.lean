section
-- ===== PART A: goes FIRST, ahead of the names: the tables' words, and 'selects' of the private methods out of them =====
/-- a private method of a class that the tables say can be made, by its rows of tables_1 -/
def lw_okq (q : MethodName × Nat) : Prop := (q.1.cls ≠ "java/lang/invoke/MethodHandle" ∧ q.1.cls ≠ "java/lang/invoke/VarHandle") ∧ Cond.instantiable q.1.cls q.2 ∈ tables_1 ∧ Cond.privateMethod q.1 ∈ tables_1 ∧ Cond.instanceMethod q.1 ∈ tables_1
theorem lw_p0 : lw_okq (⟨"ValueOrder", "putNumber", "(I)V"⟩, 8) := ⟨⟨by decide +kernel, by decide +kernel⟩, List.mem_of_getElem? (i := 16) (by decide +kernel), List.mem_of_getElem? (i := 133) (by decide +kernel), List.mem_of_getElem? (i := 134) (by decide +kernel)⟩
theorem lw_p1 : lw_okq (⟨"ValueOrder", "isSlot", "(I)Z"⟩, 8) := ⟨⟨by decide +kernel, by decide +kernel⟩, List.mem_of_getElem? (i := 16) (by decide +kernel), List.mem_of_getElem? (i := 141) (by decide +kernel), List.mem_of_getElem? (i := 142) (by decide +kernel)⟩
theorem lw_p2 : lw_okq (⟨"ValueOrder", "isOnTape", "(I)Z"⟩, 8) := ⟨⟨by decide +kernel, by decide +kernel⟩, List.mem_of_getElem? (i := 16) (by decide +kernel), List.mem_of_getElem? (i := 145) (by decide +kernel), List.mem_of_getElem? (i := 146) (by decide +kernel)⟩
theorem lw_p3 : lw_okq (⟨"ValueOrder$Reader", "readNest", "(I[BII)LValueOrder$Value;"⟩, 2) := ⟨⟨by decide +kernel, by decide +kernel⟩, List.mem_of_getElem? (i := 149) (by decide +kernel), List.mem_of_getElem? (i := 167) (by decide +kernel), List.mem_of_getElem? (i := 168) (by decide +kernel)⟩
theorem lw_p4 : lw_okq (⟨"ValueOrder$Reader", "has", "(II)Z"⟩, 2) := ⟨⟨by decide +kernel, by decide +kernel⟩, List.mem_of_getElem? (i := 149) (by decide +kernel), List.mem_of_getElem? (i := 171) (by decide +kernel), List.mem_of_getElem? (i := 172) (by decide +kernel)⟩
theorem lw_p5 : lw_okq (⟨"ValueOrder$Reader", "readNumber", "(I)J"⟩, 2) := ⟨⟨by decide +kernel, by decide +kernel⟩, List.mem_of_getElem? (i := 149) (by decide +kernel), List.mem_of_getElem? (i := 175) (by decide +kernel), List.mem_of_getElem? (i := 176) (by decide +kernel)⟩
theorem lw_p6 : lw_okq (⟨"ValueOrder$Reader", "readElement", "(II)LValueOrder$Value;"⟩, 2) := ⟨⟨by decide +kernel, by decide +kernel⟩, List.mem_of_getElem? (i := 149) (by decide +kernel), List.mem_of_getElem? (i := 182) (by decide +kernel), List.mem_of_getElem? (i := 183) (by decide +kernel)⟩
theorem lw_p7 : lw_okq (⟨"ValueOrder$Reader", "readName", "(I)[B"⟩, 2) := ⟨⟨by decide +kernel, by decide +kernel⟩, List.mem_of_getElem? (i := 149) (by decide +kernel), List.mem_of_getElem? (i := 186) (by decide +kernel), List.mem_of_getElem? (i := 187) (by decide +kernel)⟩
theorem lw_p8 : lw_okq (⟨"ValueOrder$Reader", "readTruth", "([BI)LValueOrder$Value;"⟩, 2) := ⟨⟨by decide +kernel, by decide +kernel⟩, List.mem_of_getElem? (i := 149) (by decide +kernel), List.mem_of_getElem? (i := 228) (by decide +kernel), List.mem_of_getElem? (i := 229) (by decide +kernel)⟩
theorem lw_p9 : lw_okq (⟨"ValueOrder$Reader", "readText", "([BI)LValueOrder$Value;"⟩, 2) := ⟨⟨by decide +kernel, by decide +kernel⟩, List.mem_of_getElem? (i := 149) (by decide +kernel), List.mem_of_getElem? (i := 232) (by decide +kernel), List.mem_of_getElem? (i := 233) (by decide +kernel)⟩
theorem lw_p10 : lw_okq (⟨"ValueOrder$Reader", "skipsZero", "()Z"⟩, 2) := ⟨⟨by decide +kernel, by decide +kernel⟩, List.mem_of_getElem? (i := 149) (by decide +kernel), List.mem_of_getElem? (i := 236) (by decide +kernel), List.mem_of_getElem? (i := 237) (by decide +kernel)⟩
theorem lw_p11 : lw_okq (⟨"ValueOrder", "isList", "(I)Z"⟩, 8) := ⟨⟨by decide +kernel, by decide +kernel⟩, List.mem_of_getElem? (i := 16) (by decide +kernel), List.mem_of_getElem? (i := 312) (by decide +kernel), List.mem_of_getElem? (i := 313) (by decide +kernel)⟩
theorem lw_p12 : lw_okq (⟨"ValueOrder", "fillWithLeaves", "(LValueOrder$ValueList;LValueOrder$Value;Z)Z"⟩, 8) := ⟨⟨by decide +kernel, by decide +kernel⟩, List.mem_of_getElem? (i := 16) (by decide +kernel), List.mem_of_getElem? (i := 316) (by decide +kernel), List.mem_of_getElem? (i := 317) (by decide +kernel)⟩
theorem lw_p13 : lw_okq (⟨"ValueOrder$Walk", "addLeaf", "(LValueOrder$Value;)V"⟩, 3) := ⟨⟨by decide +kernel, by decide +kernel⟩, List.mem_of_getElem? (i := 324) (by decide +kernel), List.mem_of_getElem? (i := 344) (by decide +kernel), List.mem_of_getElem? (i := 345) (by decide +kernel)⟩
theorem lw_p14 : lw_okq (⟨"ValueOrder$Walk", "followInRow", "(LValueOrder$Value;LValueOrder$Step;I)V"⟩, 3) := ⟨⟨by decide +kernel, by decide +kernel⟩, List.mem_of_getElem? (i := 324) (by decide +kernel), List.mem_of_getElem? (i := 352) (by decide +kernel), List.mem_of_getElem? (i := 353) (by decide +kernel)⟩
theorem lw_p15 : lw_okq (⟨"ValueOrder$Walk", "followInOther", "(LValueOrder$Value;LValueOrder$Step;I)V"⟩, 3) := ⟨⟨by decide +kernel, by decide +kernel⟩, List.mem_of_getElem? (i := 324) (by decide +kernel), List.mem_of_getElem? (i := 358) (by decide +kernel), List.mem_of_getElem? (i := 359) (by decide +kernel)⟩
def lw_privs_1 : List (MethodName × Nat) := [(⟨"ValueOrder", "putNumber", "(I)V"⟩, 8), (⟨"ValueOrder", "isSlot", "(I)Z"⟩, 8), (⟨"ValueOrder", "isOnTape", "(I)Z"⟩, 8), (⟨"ValueOrder$Reader", "readNest", "(I[BII)LValueOrder$Value;"⟩, 2), (⟨"ValueOrder$Reader", "has", "(II)Z"⟩, 2), (⟨"ValueOrder$Reader", "readNumber", "(I)J"⟩, 2), (⟨"ValueOrder$Reader", "readElement", "(II)LValueOrder$Value;"⟩, 2), (⟨"ValueOrder$Reader", "readName", "(I)[B"⟩, 2), (⟨"ValueOrder$Reader", "readTruth", "([BI)LValueOrder$Value;"⟩, 2), (⟨"ValueOrder$Reader", "readText", "([BI)LValueOrder$Value;"⟩, 2), (⟨"ValueOrder$Reader", "skipsZero", "()Z"⟩, 2), (⟨"ValueOrder", "isList", "(I)Z"⟩, 8), (⟨"ValueOrder", "fillWithLeaves", "(LValueOrder$ValueList;LValueOrder$Value;Z)Z"⟩, 8), (⟨"ValueOrder$Walk", "addLeaf", "(LValueOrder$Value;)V"⟩, 3), (⟨"ValueOrder$Walk", "followInRow", "(LValueOrder$Value;LValueOrder$Step;I)V"⟩, 3), (⟨"ValueOrder$Walk", "followInOther", "(LValueOrder$Value;LValueOrder$Step;I)V"⟩, 3)]
theorem lw_r1 : ∀ q ∈ lw_privs_1, lw_okq q := List.forall_mem_cons.mpr ⟨lw_p0, List.forall_mem_cons.mpr ⟨lw_p1, List.forall_mem_cons.mpr ⟨lw_p2, List.forall_mem_cons.mpr ⟨lw_p3, List.forall_mem_cons.mpr ⟨lw_p4, List.forall_mem_cons.mpr ⟨lw_p5, List.forall_mem_cons.mpr ⟨lw_p6, List.forall_mem_cons.mpr ⟨lw_p7, List.forall_mem_cons.mpr ⟨lw_p8, List.forall_mem_cons.mpr ⟨lw_p9, List.forall_mem_cons.mpr ⟨lw_p10, List.forall_mem_cons.mpr ⟨lw_p11, List.forall_mem_cons.mpr ⟨lw_p12, List.forall_mem_cons.mpr ⟨lw_p13, List.forall_mem_cons.mpr ⟨lw_p14, List.forall_mem_cons.mpr ⟨lw_p15, fun _ h => absurd h List.not_mem_nil⟩⟩⟩⟩⟩⟩⟩⟩⟩⟩⟩⟩⟩⟩⟩⟩
theorem lw_p16 : lw_okq (⟨"ValueOrder", "valueInList", "(II)LValueOrder$Value;"⟩, 8) := ⟨⟨by decide +kernel, by decide +kernel⟩, List.mem_of_getElem? (i := 16) (by decide +kernel), List.mem_of_getElem? (i := 366) (by decide +kernel), List.mem_of_getElem? (i := 367) (by decide +kernel)⟩
theorem lw_p17 : lw_okq (⟨"ValueOrder$ValueList", "mergeRuns", "(III)V"⟩, 6) := ⟨⟨by decide +kernel, by decide +kernel⟩, List.mem_of_getElem? (i := 74) (by decide +kernel), List.mem_of_getElem? (i := 393) (by decide +kernel), List.mem_of_getElem? (i := 394) (by decide +kernel)⟩
theorem lw_p18 : lw_okq (⟨"ValueOrderModel", "put", "(I)V"⟩, 24) := ⟨⟨by decide +kernel, by decide +kernel⟩, List.mem_of_getElem? (i := 419) (by decide +kernel), List.mem_of_getElem? (i := 502) (by decide +kernel), List.mem_of_getElem? (i := 503) (by decide +kernel)⟩
theorem lw_p19 : lw_okq (⟨"ValueOrderModel", "elements", "(II)I"⟩, 24) := ⟨⟨by decide +kernel, by decide +kernel⟩, List.mem_of_getElem? (i := 419) (by decide +kernel), List.mem_of_getElem? (i := 513) (by decide +kernel), List.mem_of_getElem? (i := 514) (by decide +kernel)⟩
theorem lw_p20 : lw_okq (⟨"ValueOrderModel", "whole", "(I)I"⟩, 24) := ⟨⟨by decide +kernel, by decide +kernel⟩, List.mem_of_getElem? (i := 419) (by decide +kernel), List.mem_of_getElem? (i := 517) (by decide +kernel), List.mem_of_getElem? (i := 518) (by decide +kernel)⟩
theorem lw_p21 : lw_okq (⟨"ValueOrderModel", "at", "(I)I"⟩, 24) := ⟨⟨by decide +kernel, by decide +kernel⟩, List.mem_of_getElem? (i := 419) (by decide +kernel), List.mem_of_getElem? (i := 521) (by decide +kernel), List.mem_of_getElem? (i := 522) (by decide +kernel)⟩
theorem lw_p22 : lw_okq (⟨"ValueOrderModel", "opens", "(IIZ)Z"⟩, 24) := ⟨⟨by decide +kernel, by decide +kernel⟩, List.mem_of_getElem? (i := 419) (by decide +kernel), List.mem_of_getElem? (i := 527) (by decide +kernel), List.mem_of_getElem? (i := 528) (by decide +kernel)⟩
theorem lw_p23 : lw_okq (⟨"ValueOrderModel", "element", "()Z"⟩, 24) := ⟨⟨by decide +kernel, by decide +kernel⟩, List.mem_of_getElem? (i := 419) (by decide +kernel), List.mem_of_getElem? (i := 531) (by decide +kernel), List.mem_of_getElem? (i := 532) (by decide +kernel)⟩
theorem lw_p24 : lw_okq (⟨"ValueOrderModel", "nameEnd", "(II)I"⟩, 24) := ⟨⟨by decide +kernel, by decide +kernel⟩, List.mem_of_getElem? (i := 419) (by decide +kernel), List.mem_of_getElem? (i := 535) (by decide +kernel), List.mem_of_getElem? (i := 536) (by decide +kernel)⟩
theorem lw_p25 : lw_okq (⟨"ValueOrderModel", "isText", "(II)Z"⟩, 24) := ⟨⟨by decide +kernel, by decide +kernel⟩, List.mem_of_getElem? (i := 419) (by decide +kernel), List.mem_of_getElem? (i := 539) (by decide +kernel), List.mem_of_getElem? (i := 540) (by decide +kernel)⟩
theorem lw_p26 : lw_okq (⟨"ValueOrderModel", "character", "(II)I"⟩, 24) := ⟨⟨by decide +kernel, by decide +kernel⟩, List.mem_of_getElem? (i := 419) (by decide +kernel), List.mem_of_getElem? (i := 543) (by decide +kernel), List.mem_of_getElem? (i := 544) (by decide +kernel)⟩
theorem lw_p27 : lw_okq (⟨"ValueOrderModel", "isNumber", "(III)Z"⟩, 24) := ⟨⟨by decide +kernel, by decide +kernel⟩, List.mem_of_getElem? (i := 419) (by decide +kernel), List.mem_of_getElem? (i := 551) (by decide +kernel), List.mem_of_getElem? (i := 552) (by decide +kernel)⟩
theorem lw_p28 : lw_okq (⟨"ValueOrderModel", "isThere", "(III)Z"⟩, 24) := ⟨⟨by decide +kernel, by decide +kernel⟩, List.mem_of_getElem? (i := 419) (by decide +kernel), List.mem_of_getElem? (i := 555) (by decide +kernel), List.mem_of_getElem? (i := 556) (by decide +kernel)⟩
theorem lw_p29 : lw_okq (⟨"ValueOrderModel", "isAlike", "(II)Z"⟩, 24) := ⟨⟨by decide +kernel, by decide +kernel⟩, List.mem_of_getElem? (i := 419) (by decide +kernel), List.mem_of_getElem? (i := 559) (by decide +kernel), List.mem_of_getElem? (i := 560) (by decide +kernel)⟩
theorem lw_p30 : lw_okq (⟨"ValueOrderModel", "behind", "(II)I"⟩, 24) := ⟨⟨by decide +kernel, by decide +kernel⟩, List.mem_of_getElem? (i := 419) (by decide +kernel), List.mem_of_getElem? (i := 563) (by decide +kernel), List.mem_of_getElem? (i := 564) (by decide +kernel)⟩
theorem lw_p31 : lw_okq (⟨"ValueOrderModel", "isTextValue", "(II)Z"⟩, 24) := ⟨⟨by decide +kernel, by decide +kernel⟩, List.mem_of_getElem? (i := 419) (by decide +kernel), List.mem_of_getElem? (i := 567) (by decide +kernel), List.mem_of_getElem? (i := 568) (by decide +kernel)⟩
def lw_privs_2 : List (MethodName × Nat) := [(⟨"ValueOrder", "valueInList", "(II)LValueOrder$Value;"⟩, 8), (⟨"ValueOrder$ValueList", "mergeRuns", "(III)V"⟩, 6), (⟨"ValueOrderModel", "put", "(I)V"⟩, 24), (⟨"ValueOrderModel", "elements", "(II)I"⟩, 24), (⟨"ValueOrderModel", "whole", "(I)I"⟩, 24), (⟨"ValueOrderModel", "at", "(I)I"⟩, 24), (⟨"ValueOrderModel", "opens", "(IIZ)Z"⟩, 24), (⟨"ValueOrderModel", "element", "()Z"⟩, 24), (⟨"ValueOrderModel", "nameEnd", "(II)I"⟩, 24), (⟨"ValueOrderModel", "isText", "(II)Z"⟩, 24), (⟨"ValueOrderModel", "character", "(II)I"⟩, 24), (⟨"ValueOrderModel", "isNumber", "(III)Z"⟩, 24), (⟨"ValueOrderModel", "isThere", "(III)Z"⟩, 24), (⟨"ValueOrderModel", "isAlike", "(II)Z"⟩, 24), (⟨"ValueOrderModel", "behind", "(II)I"⟩, 24), (⟨"ValueOrderModel", "isTextValue", "(II)Z"⟩, 24)]
theorem lw_r2 : ∀ q ∈ lw_privs_2, lw_okq q := List.forall_mem_cons.mpr ⟨lw_p16, List.forall_mem_cons.mpr ⟨lw_p17, List.forall_mem_cons.mpr ⟨lw_p18, List.forall_mem_cons.mpr ⟨lw_p19, List.forall_mem_cons.mpr ⟨lw_p20, List.forall_mem_cons.mpr ⟨lw_p21, List.forall_mem_cons.mpr ⟨lw_p22, List.forall_mem_cons.mpr ⟨lw_p23, List.forall_mem_cons.mpr ⟨lw_p24, List.forall_mem_cons.mpr ⟨lw_p25, List.forall_mem_cons.mpr ⟨lw_p26, List.forall_mem_cons.mpr ⟨lw_p27, List.forall_mem_cons.mpr ⟨lw_p28, List.forall_mem_cons.mpr ⟨lw_p29, List.forall_mem_cons.mpr ⟨lw_p30, List.forall_mem_cons.mpr ⟨lw_p31, fun _ h => absurd h List.not_mem_nil⟩⟩⟩⟩⟩⟩⟩⟩⟩⟩⟩⟩⟩⟩⟩⟩
theorem lw_p32 : lw_okq (⟨"ValueOrderModel", "order", "(IIII)I"⟩, 24) := ⟨⟨by decide +kernel, by decide +kernel⟩, List.mem_of_getElem? (i := 419) (by decide +kernel), List.mem_of_getElem? (i := 579) (by decide +kernel), List.mem_of_getElem? (i := 580) (by decide +kernel)⟩
theorem lw_p33 : lw_okq (⟨"ValueOrderModel", "one", "(IIII)I"⟩, 24) := ⟨⟨by decide +kernel, by decide +kernel⟩, List.mem_of_getElem? (i := 419) (by decide +kernel), List.mem_of_getElem? (i := 583) (by decide +kernel), List.mem_of_getElem? (i := 584) (by decide +kernel)⟩
theorem lw_p34 : lw_okq (⟨"ValueOrderModel", "number", "(II)J"⟩, 24) := ⟨⟨by decide +kernel, by decide +kernel⟩, List.mem_of_getElem? (i := 419) (by decide +kernel), List.mem_of_getElem? (i := 590) (by decide +kernel), List.mem_of_getElem? (i := 591) (by decide +kernel)⟩
theorem lw_p35 : lw_okq (⟨"ValueOrderModel", "bytes", "(IIII)I"⟩, 24) := ⟨⟨by decide +kernel, by decide +kernel⟩, List.mem_of_getElem? (i := 419) (by decide +kernel), List.mem_of_getElem? (i := 596) (by decide +kernel), List.mem_of_getElem? (i := 597) (by decide +kernel)⟩
theorem lw_p36 : lw_okq (⟨"ValueOrderModel", "find", "(IZI)I"⟩, 24) := ⟨⟨by decide +kernel, by decide +kernel⟩, List.mem_of_getElem? (i := 419) (by decide +kernel), List.mem_of_getElem? (i := 604) (by decide +kernel), List.mem_of_getElem? (i := 605) (by decide +kernel)⟩
theorem lw_p37 : lw_okq (⟨"ValueOrderModel", "push", "(III)V"⟩, 24) := ⟨⟨by decide +kernel, by decide +kernel⟩, List.mem_of_getElem? (i := 419) (by decide +kernel), List.mem_of_getElem? (i := 608) (by decide +kernel), List.mem_of_getElem? (i := 609) (by decide +kernel)⟩
theorem lw_p38 : lw_okq (⟨"ValueOrderModel", "addLeaf", "(IIIZ)V"⟩, 24) := ⟨⟨by decide +kernel, by decide +kernel⟩, List.mem_of_getElem? (i := 419) (by decide +kernel), List.mem_of_getElem? (i := 612) (by decide +kernel), List.mem_of_getElem? (i := 613) (by decide +kernel)⟩
theorem lw_p39 : lw_okq (⟨"ValueOrderModel", "leaf", "(III)V"⟩, 24) := ⟨⟨by decide +kernel, by decide +kernel⟩, List.mem_of_getElem? (i := 419) (by decide +kernel), List.mem_of_getElem? (i := 616) (by decide +kernel), List.mem_of_getElem? (i := 617) (by decide +kernel)⟩
theorem lw_p40 : lw_okq (⟨"ValueOrderModel", "named", "(II)I"⟩, 24) := ⟨⟨by decide +kernel, by decide +kernel⟩, List.mem_of_getElem? (i := 419) (by decide +kernel), List.mem_of_getElem? (i := 620) (by decide +kernel), List.mem_of_getElem? (i := 621) (by decide +kernel)⟩
theorem lw_p41 : lw_okq (⟨"ValueOrderModel", "isStep", "(II)Z"⟩, 24) := ⟨⟨by decide +kernel, by decide +kernel⟩, List.mem_of_getElem? (i := 419) (by decide +kernel), List.mem_of_getElem? (i := 624) (by decide +kernel), List.mem_of_getElem? (i := 625) (by decide +kernel)⟩
theorem lw_p42 : lw_okq (⟨"ValueOrderModel", "pushDocuments", "(II)V"⟩, 24) := ⟨⟨by decide +kernel, by decide +kernel⟩, List.mem_of_getElem? (i := 419) (by decide +kernel), List.mem_of_getElem? (i := 628) (by decide +kernel), List.mem_of_getElem? (i := 629) (by decide +kernel)⟩
theorem lw_p43 : lw_okq (⟨"ValueOrderModel", "hasValue", "(II)Z"⟩, 24) := ⟨⟨by decide +kernel, by decide +kernel⟩, List.mem_of_getElem? (i := 419) (by decide +kernel), List.mem_of_getElem? (i := 636) (by decide +kernel), List.mem_of_getElem? (i := 637) (by decide +kernel)⟩
theorem lw_p44 : lw_okq (⟨"ValueOrderModel", "elementsAt", "(I)I"⟩, 24) := ⟨⟨by decide +kernel, by decide +kernel⟩, List.mem_of_getElem? (i := 419) (by decide +kernel), List.mem_of_getElem? (i := 641) (by decide +kernel), List.mem_of_getElem? (i := 642) (by decide +kernel)⟩
def lw_privs_3 : List (MethodName × Nat) := [(⟨"ValueOrderModel", "order", "(IIII)I"⟩, 24), (⟨"ValueOrderModel", "one", "(IIII)I"⟩, 24), (⟨"ValueOrderModel", "number", "(II)J"⟩, 24), (⟨"ValueOrderModel", "bytes", "(IIII)I"⟩, 24), (⟨"ValueOrderModel", "find", "(IZI)I"⟩, 24), (⟨"ValueOrderModel", "push", "(III)V"⟩, 24), (⟨"ValueOrderModel", "addLeaf", "(IIIZ)V"⟩, 24), (⟨"ValueOrderModel", "leaf", "(III)V"⟩, 24), (⟨"ValueOrderModel", "named", "(II)I"⟩, 24), (⟨"ValueOrderModel", "isStep", "(II)Z"⟩, 24), (⟨"ValueOrderModel", "pushDocuments", "(II)V"⟩, 24), (⟨"ValueOrderModel", "hasValue", "(II)Z"⟩, 24), (⟨"ValueOrderModel", "elementsAt", "(I)I"⟩, 24)]
theorem lw_r3 : ∀ q ∈ lw_privs_3, lw_okq q := List.forall_mem_cons.mpr ⟨lw_p32, List.forall_mem_cons.mpr ⟨lw_p33, List.forall_mem_cons.mpr ⟨lw_p34, List.forall_mem_cons.mpr ⟨lw_p35, List.forall_mem_cons.mpr ⟨lw_p36, List.forall_mem_cons.mpr ⟨lw_p37, List.forall_mem_cons.mpr ⟨lw_p38, List.forall_mem_cons.mpr ⟨lw_p39, List.forall_mem_cons.mpr ⟨lw_p40, List.forall_mem_cons.mpr ⟨lw_p41, List.forall_mem_cons.mpr ⟨lw_p42, List.forall_mem_cons.mpr ⟨lw_p43, List.forall_mem_cons.mpr ⟨lw_p44, fun _ h => absurd h List.not_mem_nil⟩⟩⟩⟩⟩⟩⟩⟩⟩⟩⟩⟩⟩
def lw_privs : List (MethodName × Nat) := lw_privs_1 ++ (lw_privs_2 ++ (lw_privs_3))
def lw_tbl : List Cond := k2_sels lw_privs ++ tables_1
theorem lw_privs_ok : ∀ q ∈ lw_privs, lw_okq q := by
  show ∀ q ∈ lw_privs_1 ++ (lw_privs_2 ++ (lw_privs_3)), lw_okq q
  exact List.forall_mem_append.mpr ⟨lw_r1, List.forall_mem_append.mpr ⟨lw_r2, lw_r3⟩⟩
end
section
/-! the program's code as rows: place, instruction, length, a value, two numbers -/
abbrev am_R : Type := Instr × Nat × Value × Nat × Nat
def am_find : List (Nat × am_R) → Nat → Option am_R
  | [], _ => none
  | q :: l, pc => match Nat.beq q.1 pc with
    | true => some q.2
    | false => am_find l pc
def am_r0 : List (Nat × am_R) := [(0, .new 7, 3, .null, 0, 0), (3, .dup, 1, .null, 0, 0), (4, .invokespecial 9, 3, .null, 1, 0), (7, .astore_n 1, 1, .null, 0, 0), (8, .new 10, 3, .null, 6, 0), (11, .dup, 1, .null, 0, 0), (12, .invokespecial 12, 3, .null, 58, 0), (15, .astore_n 2, 1, .null, 0, 0), (16, .iconst 0, 1, .int 0, 0, 0), (17, .istore_n 3, 1, .null, 0, 0), (18, .iload_n 3, 1, .null, 0, 0), (19, .aload_n 0, 1, .null, 0, 0), (20, .arraylength, 1, .null, 0, 0), (21, .bipush 6, 2, .int 6, 0, 0), (23, .isub, 1, .null, 0, 0), (24, .if_icmp .gt 520, 3, .null, 544, 0), (27, .aload_n 0, 1, .null, 0, 0), (28, .iload_n 3, 1, .null, 0, 0), (29, .iaload, 1, .null, 0, 0), (30, .bipush 15, 2, .int 15, 0, 0), (32, .iand, 1, .null, 0, 0), (33, .tableswitch 505 0 10 #[59, 122, 155, 178, 211, 270, 314, 357, 390, 413, 446], 59, .null, 0, 0), (92, .aload_n 1, 1, .null, 0, 0), (93, .aload_n 0, 1, .null, 0, 0), (94, .iload_n 3, 1, .null, 0, 0), (95, .iconst 1, 1, .int 1, 0, 0), (96, .iadd, 1, .null, 0, 0), (97, .iaload, 1, .null, 0, 0), (98, .aload_n 0, 1, .null, 0, 0), (99, .iload_n 3, 1, .null, 0, 0), (100, .iconst 2, 1, .int 2, 0, 0), (101, .iadd, 1, .null, 0, 0), (102, .iaload, 1, .null, 0, 0), (103, .aload_n 0, 1, .null, 0, 0), (104, .iload_n 3, 1, .null, 0, 0), (105, .iconst 3, 1, .int 3, 0, 0), (106, .iadd, 1, .null, 0, 0), (107, .iaload, 1, .null, 0, 0), (108, .aload_n 0, 1, .null, 0, 0), (109, .iload_n 3, 1, .null, 0, 0), (110, .iconst 4, 1, .int 4, 0, 0), (111, .iadd, 1, .null, 0, 0), (112, .iaload, 1, .null, 0, 0), (113, .aload_n 0, 1, .null, 0, 0), (114, .iload_n 3, 1, .null, 0, 0), (115, .iconst 5, 1, .int 5, 0, 0), (116, .iadd, 1, .null, 0, 0), (117, .iaload, 1, .null, 0, 0), (118, .invokevirtual 13, 3, .null, 4, 0), (121, .aload_n 2, 1, .null, 0, 0), (122, .aload_n 0, 1, .null, 0, 0), (123, .iload_n 3, 1, .null, 0, 0), (124, .iconst 1, 1, .int 1, 0, 0), (125, .iadd, 1, .null, 0, 0), (126, .iaload, 1, .null, 0, 0), (127, .aload_n 0, 1, .null, 0, 0), (128, .iload_n 3, 1, .null, 0, 0), (129, .iconst 2, 1, .int 2, 0, 0), (130, .iadd, 1, .null, 0, 0), (131, .iaload, 1, .null, 0, 0), (132, .aload_n 0, 1, .null, 0, 0), (133, .iload_n 3, 1, .null, 0, 0), (134, .iconst 3, 1, .int 3, 0, 0), (135, .iadd, 1, .null, 0, 0), (136, .iaload, 1, .null, 0, 0), (137, .aload_n 0, 1, .null, 0, 0), (138, .iload_n 3, 1, .null, 0, 0), (139, .iconst 4, 1, .int 4, 0, 0), (140, .iadd, 1, .null, 0, 0), (141, .iaload, 1, .null, 0, 0), (142, .aload_n 0, 1, .null, 0, 0), (143, .iload_n 3, 1, .null, 0, 0), (144, .iconst 5, 1, .int 5, 0, 0), (145, .iadd, 1, .null, 0, 0), (146, .iaload, 1, .null, 0, 0), (147, .invokevirtual 17, 3, .null, 59, 0), (150, .if_icmp .eq 388, 3, .null, 538, 0), (153, .iconst 0, 1, .int 0, 0, 0), (154, .ireturn, 1, .null, 0, 0), (155, .aload_n 1, 1, .null, 0, 0), (156, .aload_n 0, 1, .null, 0, 0), (157, .iload_n 3, 1, .null, 0, 0), (158, .iconst 1, 1, .int 1, 0, 0), (159, .iadd, 1, .null, 0, 0), (160, .iaload, 1, .null, 0, 0), (161, .aload_n 0, 1, .null, 0, 0), (162, .iload_n 3, 1, .null, 0, 0), (163, .iconst 2, 1, .int 2, 0, 0), (164, .iadd, 1, .null, 0, 0), (165, .iaload, 1, .null, 0, 0), (166, .invokevirtual 18, 3, .null, 6, 0), (169, .aload_n 2, 1, .null, 0, 0), (170, .aload_n 0, 1, .null, 0, 0), (171, .iload_n 3, 1, .null, 0, 0), (172, .iconst 1, 1, .int 1, 0, 0), (173, .iadd, 1, .null, 0, 0), (174, .iaload, 1, .null, 0, 0), (175, .aload_n 0, 1, .null, 0, 0), (176, .iload_n 3, 1, .null, 0, 0), (177, .iconst 2, 1, .int 2, 0, 0), (178, .iadd, 1, .null, 0, 0), (179, .iaload, 1, .null, 0, 0), (180, .invokevirtual 22, 3, .null, 61, 0), (183, .if_icmp .eq 355, 3, .null, 538, 0), (186, .iconst 0, 1, .int 0, 0, 0), (187, .ireturn, 1, .null, 0, 0), (188, .aload_n 1, 1, .null, 0, 0), (189, .aload_n 0, 1, .null, 0, 0), (190, .iload_n 3, 1, .null, 0, 0), (191, .iconst 1, 1, .int 1, 0, 0), (192, .iadd, 1, .null, 0, 0), (193, .iaload, 1, .null, 0, 0), (194, .invokevirtual 23, 3, .null, 28, 0), (197, .aload_n 2, 1, .null, 0, 0), (198, .aload_n 0, 1, .null, 0, 0), (199, .iload_n 3, 1, .null, 0, 0), (200, .iconst 1, 1, .int 1, 0, 0), (201, .iadd, 1, .null, 0, 0), (202, .iaload, 1, .null, 0, 0), (203, .invokevirtual 27, 3, .null, 76, 0), (206, .if_icmp .eq 332, 3, .null, 538, 0), (209, .iconst 0, 1, .int 0, 0, 0), (210, .ireturn, 1, .null, 0, 0), (211, .aload_n 1, 1, .null, 0, 0), (212, .aload_n 0, 1, .null, 0, 0), (213, .iload_n 3, 1, .null, 0, 0), (214, .iconst 1, 1, .int 1, 0, 0), (215, .iadd, 1, .null, 0, 0), (216, .iaload, 1, .null, 0, 0), (217, .aload_n 0, 1, .null, 0, 0), (218, .iload_n 3, 1, .null, 0, 0), (219, .iconst 2, 1, .int 2, 0, 0), (220, .iadd, 1, .null, 0, 0), (221, .iaload, 1, .null, 0, 0), (222, .invokevirtual 28, 3, .null, 31, 0), (225, .aload_n 2, 1, .null, 0, 0), (226, .aload_n 0, 1, .null, 0, 0), (227, .iload_n 3, 1, .null, 0, 0), (228, .iconst 1, 1, .int 1, 0, 0), (229, .iadd, 1, .null, 0, 0), (230, .iaload, 1, .null, 0, 0), (231, .aload_n 0, 1, .null, 0, 0), (232, .iload_n 3, 1, .null, 0, 0), (233, .iconst 2, 1, .int 2, 0, 0), (234, .iadd, 1, .null, 0, 0), (235, .iaload, 1, .null, 0, 0), (236, .invokevirtual 31, 3, .null, 77, 0), (239, .if_icmp .eq 299, 3, .null, 538, 0), (242, .iconst 0, 1, .int 0, 0, 0), (243, .ireturn, 1, .null, 0, 0), (244, .aload_n 1, 1, .null, 0, 0), (245, .aload_n 0, 1, .null, 0, 0), (246, .iload_n 3, 1, .null, 0, 0), (247, .iconst 1, 1, .int 1, 0, 0), (248, .iadd, 1, .null, 0, 0), (249, .iaload, 1, .null, 0, 0), (250, .aload_n 0, 1, .null, 0, 0), (251, .iload_n 3, 1, .null, 0, 0), (252, .iconst 2, 1, .int 2, 0, 0), (253, .iadd, 1, .null, 0, 0), (254, .iaload, 1, .null, 0, 0), (255, .aload_n 0, 1, .null, 0, 0), (256, .iload_n 3, 1, .null, 0, 0), (257, .iconst 3, 1, .int 3, 0, 0), (258, .iadd, 1, .null, 0, 0), (259, .iaload, 1, .null, 0, 0), (260, .ifCond .eq 7, 3, .null, 267, 0), (263, .iconst 1, 1, .int 1, 0, 0), (264, .goto 4, 3, .null, 268, 0), (267, .iconst 0, 1, .int 0, 0, 0), (268, .invokevirtual 32, 3, .null, 35, 0), (271, .aload_n 2, 1, .null, 0, 0), (272, .aload_n 0, 1, .null, 0, 0), (273, .iload_n 3, 1, .null, 0, 0), (274, .iconst 1, 1, .int 1, 0, 0), (275, .iadd, 1, .null, 0, 0), (276, .iaload, 1, .null, 0, 0), (277, .aload_n 0, 1, .null, 0, 0), (278, .iload_n 3, 1, .null, 0, 0), (279, .iconst 2, 1, .int 2, 0, 0), (280, .iadd, 1, .null, 0, 0), (281, .iaload, 1, .null, 0, 0), (282, .aload_n 0, 1, .null, 0, 0), (283, .iload_n 3, 1, .null, 0, 0), (284, .iconst 3, 1, .int 3, 0, 0), (285, .iadd, 1, .null, 0, 0), (286, .iaload, 1, .null, 0, 0), (287, .ifCond .eq 7, 3, .null, 294, 0), (290, .iconst 1, 1, .int 1, 0, 0), (291, .goto 4, 3, .null, 295, 0), (294, .iconst 0, 1, .int 0, 0, 0), (295, .invokevirtual 36, 3, .null, 83, 0), (298, .if_icmp .eq 240, 3, .null, 538, 0), (301, .iconst 0, 1, .int 0, 0, 0), (302, .ireturn, 1, .null, 0, 0), (303, .aload_n 1, 1, .null, 0, 0), (304, .aload_n 0, 1, .null, 0, 0), (305, .iload_n 3, 1, .null, 0, 0), (306, .iconst 1, 1, .int 1, 0, 0), (307, .iadd, 1, .null, 0, 0), (308, .iaload, 1, .null, 0, 0), (309, .aload_n 0, 1, .null, 0, 0), (310, .iload_n 3, 1, .null, 0, 0), (311, .iconst 2, 1, .int 2, 0, 0), (312, .iadd, 1, .null, 0, 0), (313, .iaload, 1, .null, 0, 0), (314, .aload_n 0, 1, .null, 0, 0), (315, .iload_n 3, 1, .null, 0, 0), (316, .iconst 3, 1, .int 3, 0, 0), (317, .iadd, 1, .null, 0, 0), (318, .iaload, 1, .null, 0, 0), (319, .invokevirtual 37, 3, .null, 45, 0), (322, .aload_n 2, 1, .null, 0, 0), (323, .aload_n 0, 1, .null, 0, 0), (324, .iload_n 3, 1, .null, 0, 0), (325, .iconst 1, 1, .int 1, 0, 0), (326, .iadd, 1, .null, 0, 0), (327, .iaload, 1, .null, 0, 0), (328, .aload_n 0, 1, .null, 0, 0), (329, .iload_n 3, 1, .null, 0, 0), (330, .iconst 2, 1, .int 2, 0, 0), (331, .iadd, 1, .null, 0, 0), (332, .iaload, 1, .null, 0, 0), (333, .aload_n 0, 1, .null, 0, 0), (334, .iload_n 3, 1, .null, 0, 0), (335, .iconst 3, 1, .int 3, 0, 0), (336, .iadd, 1, .null, 0, 0), (337, .iaload, 1, .null, 0, 0), (338, .invokevirtual 41, 3, .null, 91, 0), (341, .lcmp, 1, .null, 0, 0), (342, .ifCond .eq 196, 3, .null, 538, 0), (345, .iconst 0, 1, .int 0, 0, 0), (346, .ireturn, 1, .null, 0, 0), (347, .aload_n 1, 1, .null, 0, 0), (348, .aload_n 0, 1, .null, 0, 0), (349, .iload_n 3, 1, .null, 0, 0), (350, .iconst 1, 1, .int 1, 0, 0), (351, .iadd, 1, .null, 0, 0), (352, .iaload, 1, .null, 0, 0), (353, .aload_n 0, 1, .null, 0, 0), (354, .iload_n 3, 1, .null, 0, 0), (355, .iconst 2, 1, .int 2, 0, 0), (356, .iadd, 1, .null, 0, 0), (357, .iaload, 1, .null, 0, 0), (358, .aload_n 0, 1, .null, 0, 0), (359, .iload_n 3, 1, .null, 0, 0), (360, .iconst 3, 1, .int 3, 0, 0), (361, .iadd, 1, .null, 0, 0), (362, .iaload, 1, .null, 0, 0), (363, .invokevirtual 42, 3, .null, 48, 0), (366, .aload_n 2, 1, .null, 0, 0), (367, .aload_n 0, 1, .null, 0, 0), (368, .iload_n 3, 1, .null, 0, 0), (369, .iconst 1, 1, .int 1, 0, 0), (370, .iadd, 1, .null, 0, 0), (371, .iaload, 1, .null, 0, 0), (372, .aload_n 0, 1, .null, 0, 0), (373, .iload_n 3, 1, .null, 0, 0), (374, .iconst 2, 1, .int 2, 0, 0), (375, .iadd, 1, .null, 0, 0), (376, .iaload, 1, .null, 0, 0), (377, .aload_n 0, 1, .null, 0, 0), (378, .iload_n 3, 1, .null, 0, 0), (379, .iconst 3, 1, .int 3, 0, 0), (380, .iadd, 1, .null, 0, 0), (381, .iaload, 1, .null, 0, 0), (382, .invokevirtual 46, 3, .null, 94, 0), (385, .if_icmp .eq 153, 3, .null, 538, 0), (388, .iconst 0, 1, .int 0, 0, 0), (389, .ireturn, 1, .null, 0, 0), (390, .aload_n 1, 1, .null, 0, 0), (391, .aload_n 0, 1, .null, 0, 0), (392, .iload_n 3, 1, .null, 0, 0), (393, .iconst 1, 1, .int 1, 0, 0), (394, .iadd, 1, .null, 0, 0), (395, .iaload, 1, .null, 0, 0), (396, .aload_n 0, 1, .null, 0, 0), (397, .iload_n 3, 1, .null, 0, 0), (398, .iconst 2, 1, .int 2, 0, 0), (399, .iadd, 1, .null, 0, 0), (400, .iaload, 1, .null, 0, 0), (401, .invokevirtual 47, 3, .null, 49, 0), (404, .aload_n 2, 1, .null, 0, 0), (405, .aload_n 0, 1, .null, 0, 0), (406, .iload_n 3, 1, .null, 0, 0), (407, .iconst 1, 1, .int 1, 0, 0), (408, .iadd, 1, .null, 0, 0), (409, .iaload, 1, .null, 0, 0), (410, .aload_n 0, 1, .null, 0, 0), (411, .iload_n 3, 1, .null, 0, 0), (412, .iconst 2, 1, .int 2, 0, 0), (413, .iadd, 1, .null, 0, 0), (414, .iaload, 1, .null, 0, 0), (415, .invokevirtual 50, 3, .null, 95, 0), (418, .if_icmp .eq 120, 3, .null, 538, 0), (421, .iconst 0, 1, .int 0, 0, 0), (422, .ireturn, 1, .null, 0, 0), (423, .aload_n 1, 1, .null, 0, 0), (424, .aload_n 0, 1, .null, 0, 0), (425, .iload_n 3, 1, .null, 0, 0), (426, .iconst 1, 1, .int 1, 0, 0), (427, .iadd, 1, .null, 0, 0), (428, .iaload, 1, .null, 0, 0), (429, .invokevirtual 51, 3, .null, 50, 0), (432, .aload_n 2, 1, .null, 0, 0), (433, .aload_n 0, 1, .null, 0, 0), (434, .iload_n 3, 1, .null, 0, 0), (435, .iconst 1, 1, .int 1, 0, 0), (436, .iadd, 1, .null, 0, 0), (437, .iaload, 1, .null, 0, 0), (438, .invokevirtual 54, 3, .null, 96, 0), (441, .if_icmp .eq 97, 3, .null, 538, 0), (444, .iconst 0, 1, .int 0, 0, 0), (445, .ireturn, 1, .null, 0, 0), (446, .aload_n 1, 1, .null, 0, 0), (447, .aload_n 0, 1, .null, 0, 0), (448, .iload_n 3, 1, .null, 0, 0), (449, .iconst 1, 1, .int 1, 0, 0), (450, .iadd, 1, .null, 0, 0), (451, .iaload, 1, .null, 0, 0), (452, .aload_n 0, 1, .null, 0, 0), (453, .iload_n 3, 1, .null, 0, 0), (454, .iconst 2, 1, .int 2, 0, 0), (455, .iadd, 1, .null, 0, 0), (456, .iaload, 1, .null, 0, 0), (457, .invokevirtual 55, 3, .null, 54, 0), (460, .aload_n 2, 1, .null, 0, 0), (461, .aload_n 0, 1, .null, 0, 0), (462, .iload_n 3, 1, .null, 0, 0), (463, .iconst 1, 1, .int 1, 0, 0), (464, .iadd, 1, .null, 0, 0), (465, .iaload, 1, .null, 0, 0), (466, .aload_n 0, 1, .null, 0, 0), (467, .iload_n 3, 1, .null, 0, 0), (468, .iconst 2, 1, .int 2, 0, 0), (469, .iadd, 1, .null, 0, 0), (470, .iaload, 1, .null, 0, 0), (471, .invokevirtual 58, 3, .null, 97, 0), (474, .if_icmp .eq 64, 3, .null, 538, 0), (477, .iconst 0, 1, .int 0, 0, 0), (478, .ireturn, 1, .null, 0, 0), (479, .aload_n 1, 1, .null, 0, 0), (480, .aload_n 0, 1, .null, 0, 0), (481, .iload_n 3, 1, .null, 0, 0), (482, .iconst 1, 1, .int 1, 0, 0), (483, .iadd, 1, .null, 0, 0), (484, .iaload, 1, .null, 0, 0), (485, .aload_n 0, 1, .null, 0, 0), (486, .iload_n 3, 1, .null, 0, 0), (487, .iconst 2, 1, .int 2, 0, 0), (488, .iadd, 1, .null, 0, 0), (489, .iaload, 1, .null, 0, 0), (490, .aload_n 0, 1, .null, 0, 0), (491, .iload_n 3, 1, .null, 0, 0), (492, .iconst 3, 1, .int 3, 0, 0), (493, .iadd, 1, .null, 0, 0), (494, .iaload, 1, .null, 0, 0), (495, .ifCond .eq 7, 3, .null, 502, 0), (498, .iconst 1, 1, .int 1, 0, 0), (499, .goto 4, 3, .null, 503, 0), (502, .iconst 0, 1, .int 0, 0, 0), (503, .invokevirtual 59, 3, .null, 56, 0), (506, .aload_n 2, 1, .null, 0, 0), (507, .aload_n 0, 1, .null, 0, 0), (508, .iload_n 3, 1, .null, 0, 0), (509, .iconst 1, 1, .int 1, 0, 0), (510, .iadd, 1, .null, 0, 0), (511, .iaload, 1, .null, 0, 0), (512, .aload_n 0, 1, .null, 0, 0), (513, .iload_n 3, 1, .null, 0, 0), (514, .iconst 2, 1, .int 2, 0, 0), (515, .iadd, 1, .null, 0, 0), (516, .iaload, 1, .null, 0, 0), (517, .aload_n 0, 1, .null, 0, 0), (518, .iload_n 3, 1, .null, 0, 0), (519, .iconst 3, 1, .int 3, 0, 0), (520, .iadd, 1, .null, 0, 0), (521, .iaload, 1, .null, 0, 0), (522, .ifCond .eq 7, 3, .null, 529, 0), (525, .iconst 1, 1, .int 1, 0, 0), (526, .goto 4, 3, .null, 530, 0), (529, .iconst 0, 1, .int 0, 0, 0), (530, .invokevirtual 63, 3, .null, 98, 0), (533, .if_icmp .eq 5, 3, .null, 538, 0), (536, .iconst 0, 1, .int 0, 0, 0), (537, .ireturn, 1, .null, 0, 0), (538, .iinc 3 6, 3, .int 6, 0, 0), (541, .goto (-523), 3, .null, 18, 0), (544, .iconst 1, 1, .int 1, 0, 0), (545, .ireturn, 1, .null, 0, 0)]
def am_r1 : List (Nat × am_R) := [(0, .aload_n 0, 1, .null, 0, 0), (1, .invokespecial 1, 3, .null, 0, 9), (4, .aload_n 0, 1, .null, 0, 0), (5, .sipush 2000, 3, .int 2000, 0, 0), (8, .newarray .byte, 2, .null, 1, 0), (10, .putfield 9, 3, .null, 0, 0), (13, .aload_n 0, 1, .null, 0, 0), (14, .iconst 4, 1, .int 4, 0, 0), (15, .anewarray 13, 3, .null, 3, 0), (18, .putfield 15, 3, .null, 0, 2), (21, .iconst 0, 1, .int 0, 0, 0), (22, .istore_n 1, 1, .null, 0, 0), (23, .iload_n 1, 1, .null, 0, 0), (24, .aload_n 0, 1, .null, 0, 0), (25, .getfield 15, 3, .null, 0, 2), (28, .arraylength, 1, .null, 0, 0), (29, .if_icmp .ge 30, 3, .null, 59, 0), (32, .aload_n 0, 1, .null, 0, 0), (33, .getfield 15, 3, .null, 0, 2), (36, .iload_n 1, 1, .null, 0, 0), (37, .new 13, 3, .null, 1, 0), (40, .dup, 1, .null, 0, 0), (41, .iconst 3, 1, .int 3, 0, 0), (42, .getstatic 19, 3, .null, 0, 0), (45, .lconst 0, 1, .long 0, 0, 0), (46, .getstatic 19, 3, .null, 0, 0), (49, .invokespecial 22, 3, .null, 2, 0), (52, .aastore, 1, .null, 0, 0), (53, .iinc 1 1, 3, .int 1, 0, 0), (56, .goto (-33), 3, .null, 23, 0), (59, .aload_n 0, 1, .null, 0, 0), (60, .iconst 2, 1, .int 2, 0, 0), (61, .anewarray 25, 3, .null, 4, 0), (64, .putfield 27, 3, .null, 0, 3), (67, .iconst 0, 1, .int 0, 0, 0), (68, .istore_n 1, 1, .null, 0, 0), (69, .iload_n 1, 1, .null, 0, 0), (70, .aload_n 0, 1, .null, 0, 0), (71, .getfield 27, 3, .null, 0, 3), (74, .arraylength, 1, .null, 0, 0), (75, .if_icmp .ge 22, 3, .null, 97, 0), (78, .aload_n 0, 1, .null, 0, 0), (79, .getfield 27, 3, .null, 0, 3), (82, .iload_n 1, 1, .null, 0, 0), (83, .new 25, 3, .null, 2, 0), (86, .dup, 1, .null, 0, 0), (87, .invokespecial 31, 3, .null, 3, 0), (90, .aastore, 1, .null, 0, 0), (91, .iinc 1 1, 3, .int 1, 0, 0), (94, .goto (-25), 3, .null, 69, 0), (97, .aload_n 0, 1, .null, 0, 0), (98, .new 25, 3, .null, 2, 0), (101, .dup, 1, .null, 0, 0), (102, .invokespecial 31, 3, .null, 3, 0), (105, .putfield 32, 3, .null, 0, 4), (108, .aload_n 0, 1, .null, 0, 0), (109, .new 25, 3, .null, 2, 0), (112, .dup, 1, .null, 0, 0), (113, .invokespecial 31, 3, .null, 3, 0), (116, .putfield 36, 3, .null, 0, 5), (119, .aload_n 0, 1, .null, 0, 0), (120, .new 13, 3, .null, 1, 0), (123, .dup, 1, .null, 0, 0), (124, .iconst 0, 1, .int 0, 0, 0), (125, .getstatic 19, 3, .null, 0, 0), (128, .lconst 0, 1, .long 0, 0, 0), (129, .getstatic 19, 3, .null, 0, 0), (132, .invokespecial 22, 3, .null, 2, 0), (135, .putfield 39, 3, .null, 0, 6), (138, .return_, 1, .null, 0, 0)]
def am_r2 : List (Nat × am_R) := [(0, .aload_n 0, 1, .null, 0, 0), (1, .invokespecial 3, 3, .null, 0, 9), (4, .aload_n 0, 1, .null, 0, 0), (5, .iload_n 1, 1, .null, 0, 0), (6, .putfield 9, 3, .null, 1, 0), (9, .aload_n 0, 1, .null, 0, 0), (10, .aload_n 2, 1, .null, 0, 0), (11, .putfield 15, 3, .null, 1, 1), (14, .aload_n 0, 1, .null, 0, 0), (15, .lload_n 3, 1, .null, 0, 0), (16, .putfield 19, 3, .null, 1, 2), (19, .aload_n 0, 1, .null, 0, 0), (20, .aload 5, 2, .null, 0, 0), (22, .putfield 23, 3, .null, 1, 3), (25, .aload_n 0, 1, .null, 0, 0), (26, .aload 5, 2, .null, 0, 0), (28, .arraylength, 1, .null, 0, 0), (29, .putfield 26, 3, .null, 1, 4), (32, .return_, 1, .null, 0, 0)]
def am_r3 : List (Nat × am_R) := [(0, .aload_n 0, 1, .null, 0, 0), (1, .invokespecial 3, 3, .null, 0, 9), (4, .aload_n 0, 1, .null, 0, 0), (5, .sipush 500, 3, .int 500, 0, 0), (8, .anewarray 9, 3, .null, 3, 0), (11, .putfield 11, 3, .null, 2, 0), (14, .aload_n 0, 1, .null, 0, 0), (15, .sipush 500, 3, .int 500, 0, 0), (18, .newarray .int, 2, .null, 0, 0), (20, .putfield 17, 3, .null, 2, 1), (23, .aload_n 0, 1, .null, 0, 0), (24, .sipush 500, 3, .int 500, 0, 0), (27, .anewarray 9, 3, .null, 3, 0), (30, .putfield 21, 3, .null, 2, 2), (33, .aload_n 0, 1, .null, 0, 0), (34, .sipush 500, 3, .int 500, 0, 0), (37, .newarray .int, 2, .null, 0, 0), (39, .putfield 24, 3, .null, 2, 3), (42, .return_, 1, .null, 0, 0)]
def am_r4 : List (Nat × am_R) := [(0, .aload_n 0, 1, .null, 0, 0), (1, .getfield 43, 3, .null, 0, 1), (4, .bipush 20, 2, .int 20, 0, 0), (6, .iadd, 1, .null, 0, 0), (7, .sipush 2000, 3, .int 2000, 0, 0), (10, .if_icmp .le 5, 3, .null, 15, 0), (13, .iconst (-1), 1, .int (-1), 0, 0), (14, .ireturn, 1, .null, 0, 0), (15, .aload_n 0, 1, .null, 0, 0), (16, .iload_n 1, 1, .null, 0, 0), (17, .invokevirtual 47, 3, .null, 5, 0), (20, .aload_n 0, 1, .null, 0, 0), (21, .iload_n 2, 1, .null, 0, 0), (22, .invokevirtual 47, 3, .null, 5, 0), (25, .aload_n 0, 1, .null, 0, 0), (26, .iload_n 3, 1, .null, 0, 0), (27, .invokevirtual 47, 3, .null, 5, 0), (30, .aload_n 0, 1, .null, 0, 0), (31, .iload 4, 2, .null, 0, 0), (33, .invokevirtual 47, 3, .null, 5, 0), (36, .aload_n 0, 1, .null, 0, 0), (37, .iload 5, 2, .null, 0, 0), (39, .invokevirtual 47, 3, .null, 5, 0), (42, .aload_n 0, 1, .null, 0, 0), (43, .getfield 43, 3, .null, 0, 1), (46, .ireturn, 1, .null, 0, 0)]
def am_r5 : List (Nat × am_R) := [(0, .bipush 24, 2, .int 24, 0, 0), (2, .istore_n 2, 1, .null, 0, 0), (3, .iload_n 2, 1, .null, 0, 0), (4, .ifCond .lt 44, 3, .null, 48, 0), (7, .aload_n 0, 1, .null, 0, 0), (8, .getfield 43, 3, .null, 0, 1), (11, .aload_n 0, 1, .null, 0, 0), (12, .getfield 9, 3, .null, 0, 0), (15, .arraylength, 1, .null, 0, 0), (16, .if_icmp .ge 32, 3, .null, 48, 0), (19, .aload_n 0, 1, .null, 0, 0), (20, .getfield 9, 3, .null, 0, 0), (23, .aload_n 0, 1, .null, 0, 0), (24, .getfield 43, 3, .null, 0, 1), (27, .iload_n 1, 1, .null, 0, 0), (28, .iload_n 2, 1, .null, 0, 0), (29, .ishr, 1, .null, 0, 0), (30, .i2b, 1, .null, 0, 0), (31, .bastore, 1, .null, 0, 0), (32, .aload_n 0, 1, .null, 0, 0), (33, .dup, 1, .null, 0, 0), (34, .getfield 43, 3, .null, 0, 1), (37, .iconst 1, 1, .int 1, 0, 0), (38, .iadd, 1, .null, 0, 0), (39, .putfield 43, 3, .null, 0, 1), (42, .iinc 2 (-8), 3, .int (-8), 0, 0), (45, .goto (-42), 3, .null, 3, 0), (48, .return_, 1, .null, 0, 0)]
def am_r6 : List (Nat × am_R) := [(0, .aload_n 0, 1, .null, 0, 0), (1, .iload_n 1, 1, .null, 0, 0), (2, .invokevirtual 51, 3, .null, 7, 0), (5, .ifCond .eq 11, 3, .null, 16, 0), (8, .aload_n 0, 1, .null, 0, 0), (9, .iload_n 2, 1, .null, 0, 0), (10, .invokevirtual 55, 3, .null, 8, 0), (13, .ifCond .ne 6, 3, .null, 19, 0), (16, .bipush (-2), 2, .int (-2), 0, 0), (18, .ireturn, 1, .null, 0, 0), (19, .aload_n 0, 1, .null, 0, 0), (20, .iconst 0, 1, .int 0, 0, 0), (21, .putfield 43, 3, .null, 0, 1), (24, .new 58, 3, .null, 3, 0), (27, .dup, 1, .null, 0, 0), (28, .aload_n 0, 1, .null, 0, 0), (29, .getfield 9, 3, .null, 0, 0), (32, .invokespecial 60, 3, .null, 9, 0), (35, .iload_n 2, 1, .null, 0, 0), (36, .invokevirtual 63, 3, .null, 10, 0), (39, .astore_n 3, 1, .null, 0, 0), (40, .aload_n 3, 1, .null, 0, 0), (41, .ifnonnull 5, 3, .null, 46, 0), (44, .iconst (-1), 1, .int (-1), 0, 0), (45, .ireturn, 1, .null, 0, 0), (46, .aload_n 0, 1, .null, 0, 0), (47, .getfield 15, 3, .null, 0, 2), (50, .iload_n 1, 1, .null, 0, 0), (51, .aload_n 3, 1, .null, 0, 0), (52, .aastore, 1, .null, 0, 0), (53, .aload_n 3, 1, .null, 0, 0), (54, .getfield 67, 3, .null, 1, 4), (57, .ireturn, 1, .null, 0, 0)]
def am_r7 : List (Nat × am_R) := [(0, .iload_n 1, 1, .null, 0, 0), (1, .ifCond .lt 16, 3, .null, 17, 0), (4, .iload_n 1, 1, .null, 0, 0), (5, .aload_n 0, 1, .null, 0, 0), (6, .getfield 15, 3, .null, 0, 2), (9, .arraylength, 1, .null, 0, 0), (10, .if_icmp .ge 7, 3, .null, 17, 0), (13, .iconst 1, 1, .int 1, 0, 0), (14, .goto 4, 3, .null, 18, 0), (17, .iconst 0, 1, .int 0, 0, 0), (18, .ireturn, 1, .null, 0, 0)]
def am_r8 : List (Nat × am_R) := [(0, .iload_n 1, 1, .null, 0, 0), (1, .ifCond .lt 15, 3, .null, 16, 0), (4, .iload_n 1, 1, .null, 0, 0), (5, .aload_n 0, 1, .null, 0, 0), (6, .getfield 43, 3, .null, 0, 1), (9, .if_icmp .gt 7, 3, .null, 16, 0), (12, .iconst 1, 1, .int 1, 0, 0), (13, .goto 4, 3, .null, 17, 0), (16, .iconst 0, 1, .int 0, 0, 0), (17, .ireturn, 1, .null, 0, 0)]
def am_r9 : List (Nat × am_R) := [(0, .aload_n 0, 1, .null, 0, 0), (1, .invokespecial 3, 3, .null, 0, 9), (4, .aload_n 0, 1, .null, 0, 0), (5, .aload_n 1, 1, .null, 0, 0), (6, .putfield 9, 3, .null, 3, 0), (9, .return_, 1, .null, 0, 0)]
def am_r10 : List (Nat × am_R) := [(0, .aload_n 0, 1, .null, 0, 0), (1, .iconst 0, 1, .int 0, 0, 0), (2, .putfield 15, 3, .null, 3, 1), (5, .aload_n 0, 1, .null, 0, 0), (6, .iconst 3, 1, .int 3, 0, 0), (7, .getstatic 19, 3, .null, 0, 0), (10, .iload_n 1, 1, .null, 0, 0), (11, .iconst 1, 1, .int 1, 0, 0), (12, .invokevirtual 22, 3, .null, 11, 0), (15, .astore_n 2, 1, .null, 0, 0), (16, .aload_n 0, 1, .null, 0, 0), (17, .getfield 15, 3, .null, 3, 1), (20, .iload_n 1, 1, .null, 0, 0), (21, .if_icmp .ne 7, 3, .null, 28, 0), (24, .aload_n 2, 1, .null, 0, 0), (25, .goto 4, 3, .null, 29, 0), (28, .aconst_null, 1, .null, 0, 0), (29, .areturn, 1, .null, 0, 0)]
def am_r11 : List (Nat × am_R) := [(0, .aload_n 0, 1, .null, 0, 0), (1, .getfield 15, 3, .null, 3, 1), (4, .istore 5, 2, .null, 0, 0), (6, .iload 4, 2, .null, 0, 0), (8, .bipush 16, 2, .int 16, 0, 0), (10, .if_icmp .gt 12, 3, .null, 22, 0), (13, .aload_n 0, 1, .null, 0, 0), (14, .iconst 5, 1, .int 5, 0, 0), (15, .iload_n 3, 1, .null, 0, 0), (16, .invokevirtual 26, 3, .null, 12, 0), (19, .ifCond .ne 5, 3, .null, 24, 0), (22, .aconst_null, 1, .null, 0, 0), (23, .areturn, 1, .null, 0, 0), (24, .aload_n 0, 1, .null, 0, 0), (25, .iconst 4, 1, .int 4, 0, 0), (26, .invokevirtual 30, 3, .null, 13, 0), (29, .l2i, 1, .null, 0, 0), (30, .istore 6, 2, .null, 0, 0), (32, .iload 6, 2, .null, 0, 0), (34, .iconst 5, 1, .int 5, 0, 0), (35, .if_icmp .lt 12, 3, .null, 47, 0), (38, .iload 6, 2, .null, 0, 0), (40, .iload_n 3, 1, .null, 0, 0), (41, .iload 5, 2, .null, 0, 0), (43, .isub, 1, .null, 0, 0), (44, .if_icmp .le 5, 3, .null, 49, 0), (47, .aconst_null, 1, .null, 0, 0), (48, .areturn, 1, .null, 0, 0), (49, .iload 5, 2, .null, 0, 0), (51, .iload 6, 2, .null, 0, 0), (53, .iadd, 1, .null, 0, 0), (54, .iconst 1, 1, .int 1, 0, 0), (55, .isub, 1, .null, 0, 0), (56, .istore 7, 2, .null, 0, 0), (58, .new 34, 3, .null, 1, 0), (61, .dup, 1, .null, 0, 0), (62, .iload_n 1, 1, .null, 0, 0), (63, .aload_n 2, 1, .null, 0, 0), (64, .lconst 0, 1, .long 0, 0, 0), (65, .getstatic 19, 3, .null, 0, 0), (68, .invokespecial 36, 3, .null, 2, 0), (71, .astore 8, 2, .null, 0, 0), (73, .iconst 0, 1, .int 0, 0, 0), (74, .istore 9, 2, .null, 0, 0), (76, .iload 9, 2, .null, 0, 0), (78, .sipush 2000, 3, .int 2000, 0, 0), (81, .if_icmp .ge 55, 3, .null, 136, 0), (84, .aload_n 0, 1, .null, 0, 0), (85, .getfield 15, 3, .null, 3, 1), (88, .iload 7, 2, .null, 0, 0), (90, .if_icmp .ge 46, 3, .null, 136, 0), (93, .aload_n 0, 1, .null, 0, 0), (94, .iload 7, 2, .null, 0, 0), (96, .iload 4, 2, .null, 0, 0), (98, .invokevirtual 39, 3, .null, 14, 0), (101, .astore 10, 2, .null, 0, 0), (103, .aload 10, 2, .null, 0, 0), (105, .ifnull 16, 3, .null, 121, 0), (108, .aload 8, 2, .null, 0, 0), (110, .aload 10, 2, .null, 0, 0), (112, .getfield 43, 3, .null, 1, 1), (115, .invokevirtual 46, 3, .null, 23, 0), (118, .ifCond .ne 5, 3, .null, 123, 0), (121, .aconst_null, 1, .null, 0, 0), (122, .areturn, 1, .null, 0, 0), (123, .aload 8, 2, .null, 0, 0), (125, .aload 10, 2, .null, 0, 0), (127, .invokevirtual 50, 3, .null, 27, 0), (130, .iinc 9 1, 3, .int 1, 0, 0), (133, .goto (-57), 3, .null, 76, 0), (136, .aload_n 0, 1, .null, 0, 0), (137, .getfield 15, 3, .null, 3, 1), (140, .iload 7, 2, .null, 0, 0), (142, .if_icmp .ne 15, 3, .null, 157, 0), (145, .aload_n 0, 1, .null, 0, 0), (146, .invokevirtual 54, 3, .null, 22, 0), (149, .ifCond .eq 8, 3, .null, 157, 0), (152, .aload 8, 2, .null, 0, 0), (154, .goto 4, 3, .null, 158, 0), (157, .aconst_null, 1, .null, 0, 0), (158, .areturn, 1, .null, 0, 0)]
def am_r12 : List (Nat × am_R) := [(0, .iload_n 1, 1, .null, 0, 0), (1, .iload_n 2, 1, .null, 0, 0), (2, .aload_n 0, 1, .null, 0, 0), (3, .getfield 15, 3, .null, 3, 1), (6, .isub, 1, .null, 0, 0), (7, .if_icmp .gt 16, 3, .null, 23, 0), (10, .iload_n 2, 1, .null, 0, 0), (11, .aload_n 0, 1, .null, 0, 0), (12, .getfield 9, 3, .null, 3, 0), (15, .arraylength, 1, .null, 0, 0), (16, .if_icmp .gt 7, 3, .null, 23, 0), (19, .iconst 1, 1, .int 1, 0, 0), (20, .goto 4, 3, .null, 24, 0), (23, .iconst 0, 1, .int 0, 0, 0), (24, .ireturn, 1, .null, 0, 0)]
def am_r13 : List (Nat × am_R) := [(0, .lconst 0, 1, .long 0, 0, 0), (1, .lstore_n 2, 1, .null, 0, 0), (2, .iconst 0, 1, .int 0, 0, 0), (3, .istore 4, 2, .null, 0, 0), (5, .iload 4, 2, .null, 0, 0), (7, .iload_n 1, 1, .null, 0, 0), (8, .if_icmp .ge 54, 3, .null, 62, 0), (11, .aload_n 0, 1, .null, 0, 0), (12, .getfield 15, 3, .null, 3, 1), (15, .aload_n 0, 1, .null, 0, 0), (16, .getfield 9, 3, .null, 3, 0), (19, .arraylength, 1, .null, 0, 0), (20, .if_icmp .ge 42, 3, .null, 62, 0), (23, .lload_n 2, 1, .null, 0, 0), (24, .aload_n 0, 1, .null, 0, 0), (25, .getfield 9, 3, .null, 3, 0), (28, .aload_n 0, 1, .null, 0, 0), (29, .getfield 15, 3, .null, 3, 1), (32, .baload, 1, .null, 0, 0), (33, .i2l, 1, .null, 0, 0), (34, .ldc2_w 79, 3, .long 255, 0, 0), (37, .land, 1, .null, 0, 0), (38, .bipush 8, 2, .int 8, 0, 0), (40, .iload 4, 2, .null, 0, 0), (42, .imul, 1, .null, 0, 0), (43, .lshl, 1, .null, 0, 0), (44, .lor, 1, .null, 0, 0), (45, .lstore_n 2, 1, .null, 0, 0), (46, .aload_n 0, 1, .null, 0, 0), (47, .dup, 1, .null, 0, 0), (48, .getfield 15, 3, .null, 3, 1), (51, .iconst 1, 1, .int 1, 0, 0), (52, .iadd, 1, .null, 0, 0), (53, .putfield 15, 3, .null, 3, 1), (56, .iinc 4 1, 3, .int 1, 0, 0), (59, .goto (-54), 3, .null, 5, 0), (62, .lload_n 2, 1, .null, 0, 0), (63, .lreturn, 1, .null, 0, 0)]
def am_r14 : List (Nat × am_R) := [(0, .aload_n 0, 1, .null, 0, 0), (1, .iconst 1, 1, .int 1, 0, 0), (2, .iload_n 1, 1, .null, 0, 0), (3, .invokevirtual 26, 3, .null, 12, 0), (6, .ifCond .ne 5, 3, .null, 11, 0), (9, .aconst_null, 1, .null, 0, 0), (10, .areturn, 1, .null, 0, 0), (11, .aload_n 0, 1, .null, 0, 0), (12, .iconst 1, 1, .int 1, 0, 0), (13, .invokevirtual 30, 3, .null, 13, 0), (16, .l2i, 1, .null, 0, 0), (17, .istore_n 3, 1, .null, 0, 0), (18, .aload_n 0, 1, .null, 0, 0), (19, .iload_n 1, 1, .null, 0, 0), (20, .invokevirtual 58, 3, .null, 15, 0), (23, .astore 4, 2, .null, 0, 0), (25, .aload 4, 2, .null, 0, 0), (27, .ifnonnull 5, 3, .null, 32, 0), (30, .aconst_null, 1, .null, 0, 0), (31, .areturn, 1, .null, 0, 0), (32, .iload_n 3, 1, .null, 0, 0), (33, .tableswitch 194 2 18 #[174, 182, 182, 194, 194, 194, 151, 194, 159, 194, 194, 194, 194, 194, 83, 194, 117], 83, .null, 0, 0), (116, .aload_n 0, 1, .null, 0, 0), (117, .iconst 4, 1, .int 4, 0, 0), (118, .iload_n 1, 1, .null, 0, 0), (119, .invokevirtual 26, 3, .null, 12, 0), (122, .ifCond .eq 26, 3, .null, 148, 0), (125, .new 34, 3, .null, 1, 0), (128, .dup, 1, .null, 0, 0), (129, .iload_n 3, 1, .null, 0, 0), (130, .aload 4, 2, .null, 0, 0), (132, .aload_n 0, 1, .null, 0, 0), (133, .iconst 4, 1, .int 4, 0, 0), (134, .invokevirtual 30, 3, .null, 13, 0), (137, .l2i, 1, .null, 0, 0), (138, .i2l, 1, .null, 0, 0), (139, .getstatic 19, 3, .null, 0, 0), (142, .invokespecial 36, 3, .null, 2, 0), (145, .goto 4, 3, .null, 149, 0), (148, .aconst_null, 1, .null, 0, 0), (149, .areturn, 1, .null, 0, 0), (150, .aload_n 0, 1, .null, 0, 0), (151, .bipush 8, 2, .int 8, 0, 0), (153, .iload_n 1, 1, .null, 0, 0), (154, .invokevirtual 26, 3, .null, 12, 0), (157, .ifCond .eq 25, 3, .null, 182, 0), (160, .new 34, 3, .null, 1, 0), (163, .dup, 1, .null, 0, 0), (164, .iload_n 3, 1, .null, 0, 0), (165, .aload 4, 2, .null, 0, 0), (167, .aload_n 0, 1, .null, 0, 0), (168, .bipush 8, 2, .int 8, 0, 0), (170, .invokevirtual 30, 3, .null, 13, 0), (173, .getstatic 19, 3, .null, 0, 0), (176, .invokespecial 36, 3, .null, 2, 0), (179, .goto 4, 3, .null, 183, 0), (182, .aconst_null, 1, .null, 0, 0), (183, .areturn, 1, .null, 0, 0), (184, .aload_n 0, 1, .null, 0, 0), (185, .aload 4, 2, .null, 0, 0), (187, .iload_n 1, 1, .null, 0, 0), (188, .invokevirtual 62, 3, .null, 20, 0), (191, .areturn, 1, .null, 0, 0), (192, .new 34, 3, .null, 1, 0), (195, .dup, 1, .null, 0, 0), (196, .iload_n 3, 1, .null, 0, 0), (197, .aload 4, 2, .null, 0, 0), (199, .lconst 0, 1, .long 0, 0, 0), (200, .getstatic 19, 3, .null, 0, 0), (203, .invokespecial 36, 3, .null, 2, 0), (206, .areturn, 1, .null, 0, 0), (207, .aload_n 0, 1, .null, 0, 0), (208, .aload 4, 2, .null, 0, 0), (210, .iload_n 1, 1, .null, 0, 0), (211, .invokevirtual 66, 3, .null, 21, 0), (214, .areturn, 1, .null, 0, 0), (215, .aload_n 0, 1, .null, 0, 0), (216, .iload_n 3, 1, .null, 0, 0), (217, .aload 4, 2, .null, 0, 0), (219, .iload_n 1, 1, .null, 0, 0), (220, .iload_n 2, 1, .null, 0, 0), (221, .iconst 1, 1, .int 1, 0, 0), (222, .iadd, 1, .null, 0, 0), (223, .invokevirtual 22, 3, .null, 11, 0), (226, .areturn, 1, .null, 0, 0), (227, .aconst_null, 1, .null, 0, 0), (228, .areturn, 1, .null, 0, 0)]
def am_r15 : List (Nat × am_R) := [(0, .aload_n 0, 1, .null, 0, 0), (1, .getfield 15, 3, .null, 3, 1), (4, .istore_n 2, 1, .null, 0, 0), (5, .iload_n 2, 1, .null, 0, 0), (6, .istore_n 3, 1, .null, 0, 0), (7, .iload_n 3, 1, .null, 0, 0), (8, .iload_n 1, 1, .null, 0, 0), (9, .if_icmp .ge 27, 3, .null, 36, 0), (12, .iload_n 3, 1, .null, 0, 0), (13, .aload_n 0, 1, .null, 0, 0), (14, .getfield 9, 3, .null, 3, 0), (17, .arraylength, 1, .null, 0, 0), (18, .if_icmp .ge 18, 3, .null, 36, 0), (21, .aload_n 0, 1, .null, 0, 0), (22, .getfield 9, 3, .null, 3, 0), (25, .iload_n 3, 1, .null, 0, 0), (26, .baload, 1, .null, 0, 0), (27, .ifCond .eq 9, 3, .null, 36, 0), (30, .iinc 3 1, 3, .int 1, 0, 0), (33, .goto (-26), 3, .null, 7, 0), (36, .iload_n 3, 1, .null, 0, 0), (37, .iload_n 1, 1, .null, 0, 0), (38, .if_icmp .ge 15, 3, .null, 53, 0), (41, .aload_n 0, 1, .null, 0, 0), (42, .getfield 9, 3, .null, 3, 0), (45, .iload_n 2, 1, .null, 0, 0), (46, .iload_n 3, 1, .null, 0, 0), (47, .invokestatic 69, 3, .null, 16, 0), (50, .ifCond .ne 5, 3, .null, 55, 0), (53, .aconst_null, 1, .null, 0, 0), (54, .areturn, 1, .null, 0, 0), (55, .aload_n 0, 1, .null, 0, 0), (56, .iload_n 3, 1, .null, 0, 0), (57, .iconst 1, 1, .int 1, 0, 0), (58, .iadd, 1, .null, 0, 0), (59, .putfield 15, 3, .null, 3, 1), (62, .aload_n 0, 1, .null, 0, 0), (63, .getfield 9, 3, .null, 3, 0), (66, .iload_n 2, 1, .null, 0, 0), (67, .iload_n 3, 1, .null, 0, 0), (68, .invokestatic 75, 3, .null, 19, 0), (71, .areturn, 1, .null, 0, 0)]
def am_r16 : List (Nat × am_R) := [(0, .iload_n 1, 1, .null, 0, 0), (1, .ifCond .lt 9, 3, .null, 10, 0), (4, .iload_n 2, 1, .null, 0, 0), (5, .aload_n 0, 1, .null, 0, 0), (6, .arraylength, 1, .null, 0, 0), (7, .if_icmp .le 5, 3, .null, 12, 0), (10, .iconst 0, 1, .int 0, 0, 0), (11, .ireturn, 1, .null, 0, 0), (12, .iload_n 1, 1, .null, 0, 0), (13, .istore_n 3, 1, .null, 0, 0), (14, .iload_n 1, 1, .null, 0, 0), (15, .istore 4, 2, .null, 0, 0), (17, .iload 4, 2, .null, 0, 0), (19, .iload_n 2, 1, .null, 0, 0), (20, .if_icmp .ge 56, 3, .null, 76, 0), (23, .iload_n 3, 1, .null, 0, 0), (24, .iload_n 2, 1, .null, 0, 0), (25, .if_icmp .ge 51, 3, .null, 76, 0), (28, .aload_n 0, 1, .null, 0, 0), (29, .iload_n 3, 1, .null, 0, 0), (30, .baload, 1, .null, 0, 0), (31, .sipush 255, 3, .int 255, 0, 0), (34, .iand, 1, .null, 0, 0), (35, .invokestatic 7, 3, .null, 17, 0), (38, .istore 5, 2, .null, 0, 0), (40, .iload 5, 2, .null, 0, 0), (42, .ifCond .eq 21, 3, .null, 63, 0), (45, .iload 5, 2, .null, 0, 0), (47, .iload_n 2, 1, .null, 0, 0), (48, .iload_n 3, 1, .null, 0, 0), (49, .isub, 1, .null, 0, 0), (50, .if_icmp .gt 13, 3, .null, 63, 0), (53, .aload_n 0, 1, .null, 0, 0), (54, .iload_n 3, 1, .null, 0, 0), (55, .iload 5, 2, .null, 0, 0), (57, .invokestatic 13, 3, .null, 18, 0), (60, .ifCond .ne 5, 3, .null, 65, 0), (63, .iconst 0, 1, .int 0, 0, 0), (64, .ireturn, 1, .null, 0, 0), (65, .iload_n 3, 1, .null, 0, 0), (66, .iload 5, 2, .null, 0, 0), (68, .iadd, 1, .null, 0, 0), (69, .istore_n 3, 1, .null, 0, 0), (70, .iinc 4 1, 3, .int 1, 0, 0), (73, .goto (-56), 3, .null, 17, 0), (76, .iconst 1, 1, .int 1, 0, 0), (77, .ireturn, 1, .null, 0, 0)]
def am_r17 : List (Nat × am_R) := [(0, .iload_n 0, 1, .null, 0, 0), (1, .sipush 128, 3, .int 128, 0, 0), (4, .if_icmp .ge 5, 3, .null, 9, 0), (7, .iconst 1, 1, .int 1, 0, 0), (8, .ireturn, 1, .null, 0, 0), (9, .iload_n 0, 1, .null, 0, 0), (10, .sipush 192, 3, .int 192, 0, 0), (13, .if_icmp .ge 5, 3, .null, 18, 0), (16, .iconst 0, 1, .int 0, 0, 0), (17, .ireturn, 1, .null, 0, 0), (18, .iload_n 0, 1, .null, 0, 0), (19, .sipush 224, 3, .int 224, 0, 0), (22, .if_icmp .ge 5, 3, .null, 27, 0), (25, .iconst 2, 1, .int 2, 0, 0), (26, .ireturn, 1, .null, 0, 0), (27, .iload_n 0, 1, .null, 0, 0), (28, .sipush 240, 3, .int 240, 0, 0), (31, .if_icmp .ge 5, 3, .null, 36, 0), (34, .iconst 3, 1, .int 3, 0, 0), (35, .ireturn, 1, .null, 0, 0), (36, .iload_n 0, 1, .null, 0, 0), (37, .sipush 248, 3, .int 248, 0, 0), (40, .if_icmp .ge 7, 3, .null, 47, 0), (43, .iconst 4, 1, .int 4, 0, 0), (44, .goto 4, 3, .null, 48, 0), (47, .iconst 0, 1, .int 0, 0, 0), (48, .ireturn, 1, .null, 0, 0)]
def am_r18 : List (Nat × am_R) := [(0, .iload_n 2, 1, .null, 0, 0), (1, .iconst 1, 1, .int 1, 0, 0), (2, .if_icmp .ne 5, 3, .null, 7, 0), (5, .iconst 1, 1, .int 1, 0, 0), (6, .ireturn, 1, .null, 0, 0), (7, .aload_n 0, 1, .null, 0, 0), (8, .iload_n 1, 1, .null, 0, 0), (9, .baload, 1, .null, 0, 0), (10, .bipush 127, 2, .int 127, 0, 0), (12, .iload_n 2, 1, .null, 0, 0), (13, .ishr, 1, .null, 0, 0), (14, .iand, 1, .null, 0, 0), (15, .istore_n 3, 1, .null, 0, 0), (16, .iload_n 1, 1, .null, 0, 0), (17, .iconst 1, 1, .int 1, 0, 0), (18, .iadd, 1, .null, 0, 0), (19, .istore 4, 2, .null, 0, 0), (21, .iload 4, 2, .null, 0, 0), (23, .iload_n 1, 1, .null, 0, 0), (24, .iload_n 2, 1, .null, 0, 0), (25, .iadd, 1, .null, 0, 0), (26, .if_icmp .ge 45, 3, .null, 71, 0), (29, .iload 4, 2, .null, 0, 0), (31, .aload_n 0, 1, .null, 0, 0), (32, .arraylength, 1, .null, 0, 0), (33, .if_icmp .ge 38, 3, .null, 71, 0), (36, .aload_n 0, 1, .null, 0, 0), (37, .iload 4, 2, .null, 0, 0), (39, .baload, 1, .null, 0, 0), (40, .sipush 192, 3, .int 192, 0, 0), (43, .iand, 1, .null, 0, 0), (44, .sipush 128, 3, .int 128, 0, 0), (47, .if_icmp .eq 5, 3, .null, 52, 0), (50, .iconst 0, 1, .int 0, 0, 0), (51, .ireturn, 1, .null, 0, 0), (52, .iload_n 3, 1, .null, 0, 0), (53, .bipush 6, 2, .int 6, 0, 0), (55, .ishl, 1, .null, 0, 0), (56, .aload_n 0, 1, .null, 0, 0), (57, .iload 4, 2, .null, 0, 0), (59, .baload, 1, .null, 0, 0), (60, .bipush 63, 2, .int 63, 0, 0), (62, .iand, 1, .null, 0, 0), (63, .ior, 1, .null, 0, 0), (64, .istore_n 3, 1, .null, 0, 0), (65, .iinc 4 1, 3, .int 1, 0, 0), (68, .goto (-47), 3, .null, 21, 0), (71, .iload_n 3, 1, .null, 0, 0), (72, .ldc 17, 2, .int 55296, 0, 0), (74, .if_icmp .lt 13, 3, .null, 87, 0), (77, .iload_n 3, 1, .null, 0, 0), (78, .ldc 18, 2, .int 57343, 0, 0), (80, .if_icmp .gt 7, 3, .null, 87, 0), (83, .iconst 1, 1, .int 1, 0, 0), (84, .goto 4, 3, .null, 88, 0), (87, .iconst 0, 1, .int 0, 0, 0), (88, .istore 4, 2, .null, 0, 0), (90, .iload_n 2, 1, .null, 0, 0), (91, .iconst 2, 1, .int 2, 0, 0), (92, .if_icmp .ne 9, 3, .null, 101, 0), (95, .sipush 128, 3, .int 128, 0, 0), (98, .goto 16, 3, .null, 114, 0), (101, .iload_n 2, 1, .null, 0, 0), (102, .iconst 3, 1, .int 3, 0, 0), (103, .if_icmp .ne 9, 3, .null, 112, 0), (106, .sipush 2048, 3, .int 2048, 0, 0), (109, .goto 5, 3, .null, 114, 0), (112, .ldc 19, 2, .int 65536, 0, 0), (114, .istore 5, 2, .null, 0, 0), (116, .iload_n 3, 1, .null, 0, 0), (117, .iload 5, 2, .null, 0, 0), (119, .if_icmp .lt 18, 3, .null, 137, 0), (122, .iload_n 3, 1, .null, 0, 0), (123, .ldc 20, 2, .int 1114111, 0, 0), (125, .if_icmp .gt 12, 3, .null, 137, 0), (128, .iload 4, 2, .null, 0, 0), (130, .ifCond .ne 7, 3, .null, 137, 0), (133, .iconst 1, 1, .int 1, 0, 0), (134, .goto 4, 3, .null, 138, 0), (137, .iconst 0, 1, .int 0, 0, 0), (138, .ireturn, 1, .null, 0, 0)]
def am_r19 : List (Nat × am_R) := [(0, .iload_n 1, 1, .null, 0, 0), (1, .ifCond .lt 14, 3, .null, 15, 0), (4, .iload_n 2, 1, .null, 0, 0), (5, .iload_n 1, 1, .null, 0, 0), (6, .if_icmp .le 9, 3, .null, 15, 0), (9, .iload_n 2, 1, .null, 0, 0), (10, .aload_n 0, 1, .null, 0, 0), (11, .arraylength, 1, .null, 0, 0), (12, .if_icmp .le 7, 3, .null, 19, 0), (15, .getstatic 19, 3, .null, 0, 0), (18, .areturn, 1, .null, 0, 0), (19, .aload_n 0, 1, .null, 0, 0), (20, .iload_n 1, 1, .null, 0, 0), (21, .iload_n 2, 1, .null, 0, 0), (22, .invokestatic 150, 3, .null, 99, 0), (25, .areturn, 1, .null, 0, 0)]
def am_r20 : List (Nat × am_R) := [(0, .aload_n 0, 1, .null, 0, 0), (1, .iconst 1, 1, .int 1, 0, 0), (2, .iload_n 2, 1, .null, 0, 0), (3, .invokevirtual 26, 3, .null, 12, 0), (6, .ifCond .ne 5, 3, .null, 11, 0), (9, .aconst_null, 1, .null, 0, 0), (10, .areturn, 1, .null, 0, 0), (11, .aload_n 0, 1, .null, 0, 0), (12, .iconst 1, 1, .int 1, 0, 0), (13, .invokevirtual 30, 3, .null, 13, 0), (16, .lstore_n 3, 1, .null, 0, 0), (17, .lload_n 3, 1, .null, 0, 0), (18, .lconst 1, 1, .long 1, 0, 0), (19, .lcmp, 1, .null, 0, 0), (20, .ifCond .gt 20, 3, .null, 40, 0), (23, .new 34, 3, .null, 1, 0), (26, .dup, 1, .null, 0, 0), (27, .bipush 8, 2, .int 8, 0, 0), (29, .aload_n 1, 1, .null, 0, 0), (30, .lload_n 3, 1, .null, 0, 0), (31, .getstatic 19, 3, .null, 0, 0), (34, .invokespecial 36, 3, .null, 2, 0), (37, .goto 4, 3, .null, 41, 0), (40, .aconst_null, 1, .null, 0, 0), (41, .areturn, 1, .null, 0, 0)]
def am_r21 : List (Nat × am_R) := [(0, .aload_n 0, 1, .null, 0, 0), (1, .iconst 4, 1, .int 4, 0, 0), (2, .iload_n 2, 1, .null, 0, 0), (3, .invokevirtual 26, 3, .null, 12, 0), (6, .ifCond .ne 5, 3, .null, 11, 0), (9, .aconst_null, 1, .null, 0, 0), (10, .areturn, 1, .null, 0, 0), (11, .aload_n 0, 1, .null, 0, 0), (12, .iconst 4, 1, .int 4, 0, 0), (13, .invokevirtual 30, 3, .null, 13, 0), (16, .l2i, 1, .null, 0, 0), (17, .istore_n 3, 1, .null, 0, 0), (18, .iload_n 3, 1, .null, 0, 0), (19, .iconst 1, 1, .int 1, 0, 0), (20, .if_icmp .lt 12, 3, .null, 32, 0), (23, .aload_n 0, 1, .null, 0, 0), (24, .iload_n 3, 1, .null, 0, 0), (25, .iload_n 2, 1, .null, 0, 0), (26, .invokevirtual 26, 3, .null, 12, 0), (29, .ifCond .ne 5, 3, .null, 34, 0), (32, .aconst_null, 1, .null, 0, 0), (33, .areturn, 1, .null, 0, 0), (34, .aload_n 0, 1, .null, 0, 0), (35, .getfield 15, 3, .null, 3, 1), (38, .istore 4, 2, .null, 0, 0), (40, .aload_n 0, 1, .null, 0, 0), (41, .iload 4, 2, .null, 0, 0), (43, .iload_n 3, 1, .null, 0, 0), (44, .iadd, 1, .null, 0, 0), (45, .iconst 1, 1, .int 1, 0, 0), (46, .isub, 1, .null, 0, 0), (47, .putfield 15, 3, .null, 3, 1), (50, .aload_n 0, 1, .null, 0, 0), (51, .getfield 9, 3, .null, 3, 0), (54, .iload 4, 2, .null, 0, 0), (56, .aload_n 0, 1, .null, 0, 0), (57, .getfield 15, 3, .null, 3, 1), (60, .invokestatic 69, 3, .null, 16, 0), (63, .ifCond .eq 10, 3, .null, 73, 0), (66, .aload_n 0, 1, .null, 0, 0), (67, .invokevirtual 54, 3, .null, 22, 0), (70, .ifCond .ne 5, 3, .null, 75, 0), (73, .aconst_null, 1, .null, 0, 0), (74, .areturn, 1, .null, 0, 0), (75, .new 34, 3, .null, 1, 0), (78, .dup, 1, .null, 0, 0), (79, .iconst 2, 1, .int 2, 0, 0), (80, .aload_n 1, 1, .null, 0, 0), (81, .lconst 0, 1, .long 0, 0, 0), (82, .aload_n 0, 1, .null, 0, 0), (83, .getfield 9, 3, .null, 3, 0), (86, .iload 4, 2, .null, 0, 0), (88, .iload 4, 2, .null, 0, 0), (90, .iload_n 3, 1, .null, 0, 0), (91, .iadd, 1, .null, 0, 0), (92, .iconst 1, 1, .int 1, 0, 0), (93, .isub, 1, .null, 0, 0), (94, .invokestatic 75, 3, .null, 19, 0), (97, .invokespecial 36, 3, .null, 2, 0), (100, .areturn, 1, .null, 0, 0)]
def am_r22 : List (Nat × am_R) := [(0, .aload_n 0, 1, .null, 0, 0), (1, .getfield 15, 3, .null, 3, 1), (4, .aload_n 0, 1, .null, 0, 0), (5, .getfield 9, 3, .null, 3, 0), (8, .arraylength, 1, .null, 0, 0), (9, .if_icmp .ge 15, 3, .null, 24, 0), (12, .aload_n 0, 1, .null, 0, 0), (13, .getfield 9, 3, .null, 3, 0), (16, .aload_n 0, 1, .null, 0, 0), (17, .getfield 15, 3, .null, 3, 1), (20, .baload, 1, .null, 0, 0), (21, .ifCond .eq 5, 3, .null, 26, 0), (24, .iconst 0, 1, .int 0, 0, 0), (25, .ireturn, 1, .null, 0, 0), (26, .aload_n 0, 1, .null, 0, 0), (27, .dup, 1, .null, 0, 0), (28, .getfield 15, 3, .null, 3, 1), (31, .iconst 1, 1, .int 1, 0, 0), (32, .iadd, 1, .null, 0, 0), (33, .putfield 15, 3, .null, 3, 1), (36, .iconst 1, 1, .int 1, 0, 0), (37, .ireturn, 1, .null, 0, 0)]
def am_r23 : List (Nat × am_R) := [(0, .aload_n 0, 1, .null, 0, 0), (1, .getfield 9, 3, .null, 1, 0), (4, .iconst 4, 1, .int 4, 0, 0), (5, .if_icmp .ne 14, 3, .null, 19, 0), (8, .aload_n 1, 1, .null, 0, 0), (9, .aload_n 0, 1, .null, 0, 0), (10, .getfield 26, 3, .null, 1, 4), (13, .invokestatic 45, 3, .null, 24, 0), (16, .goto 16, 3, .null, 32, 0), (19, .aload_n 0, 1, .null, 0, 0), (20, .aload_n 1, 1, .null, 0, 0), (21, .invokevirtual 49, 3, .null, 25, 0), (24, .ifnonnull 7, 3, .null, 31, 0), (27, .iconst 1, 1, .int 1, 0, 0), (28, .goto 4, 3, .null, 32, 0), (31, .iconst 0, 1, .int 0, 0, 0), (32, .ireturn, 1, .null, 0, 0)]
def am_r24 : List (Nat × am_R) := [(0, .iload_n 1, 1, .null, 0, 0), (1, .istore_n 2, 1, .null, 0, 0), (2, .aload_n 0, 1, .null, 0, 0), (3, .arraylength, 1, .null, 0, 0), (4, .iconst 1, 1, .int 1, 0, 0), (5, .isub, 1, .null, 0, 0), (6, .istore_n 3, 1, .null, 0, 0), (7, .iload_n 3, 1, .null, 0, 0), (8, .ifCond .lt 53, 3, .null, 61, 0), (11, .iload_n 2, 1, .null, 0, 0), (12, .ifCond .ne 15, 3, .null, 27, 0), (15, .iload_n 3, 1, .null, 0, 0), (16, .aload_n 0, 1, .null, 0, 0), (17, .arraylength, 1, .null, 0, 0), (18, .iconst 1, 1, .int 1, 0, 0), (19, .isub, 1, .null, 0, 0), (20, .if_icmp .ge 7, 3, .null, 27, 0), (23, .iconst 1, 1, .int 1, 0, 0), (24, .goto 4, 3, .null, 28, 0), (27, .iconst 0, 1, .int 0, 0, 0), (28, .istore 4, 2, .null, 0, 0), (30, .iload 4, 2, .null, 0, 0), (32, .ifCond .ne 16, 3, .null, 48, 0), (35, .aload_n 0, 1, .null, 0, 0), (36, .iload_n 3, 1, .null, 0, 0), (37, .baload, 1, .null, 0, 0), (38, .bipush 48, 2, .int 48, 0, 0), (40, .iload_n 2, 1, .null, 0, 0), (41, .bipush 10, 2, .int 10, 0, 0), (43, .irem, 1, .null, 0, 0), (44, .iadd, 1, .null, 0, 0), (45, .if_icmp .eq 5, 3, .null, 50, 0), (48, .iconst 0, 1, .int 0, 0, 0), (49, .ireturn, 1, .null, 0, 0), (50, .iload_n 2, 1, .null, 0, 0), (51, .bipush 10, 2, .int 10, 0, 0), (53, .idiv, 1, .null, 0, 0), (54, .istore_n 2, 1, .null, 0, 0), (55, .iinc 3 (-1), 3, .int (-1), 0, 0), (58, .goto (-51), 3, .null, 7, 0), (61, .iload_n 2, 1, .null, 0, 0), (62, .ifCond .ne 12, 3, .null, 74, 0), (65, .aload_n 0, 1, .null, 0, 0), (66, .arraylength, 1, .null, 0, 0), (67, .ifCond .le 7, 3, .null, 74, 0), (70, .iconst 1, 1, .int 1, 0, 0), (71, .goto 4, 3, .null, 75, 0), (74, .iconst 0, 1, .int 0, 0, 0), (75, .ireturn, 1, .null, 0, 0)]
def am_r25 : List (Nat × am_R) := [(0, .aload_n 0, 1, .null, 0, 0), (1, .getfield 33, 3, .null, 1, 5), (4, .astore_n 2, 1, .null, 0, 0), (5, .aload_n 2, 1, .null, 0, 0), (6, .ifnull 24, 3, .null, 30, 0), (9, .aload_n 2, 1, .null, 0, 0), (10, .getfield 15, 3, .null, 1, 1), (13, .aload_n 1, 1, .null, 0, 0), (14, .invokestatic 39, 3, .null, 26, 0), (17, .ifCond .ne 5, 3, .null, 22, 0), (20, .aload_n 2, 1, .null, 0, 0), (21, .areturn, 1, .null, 0, 0), (22, .aload_n 2, 1, .null, 0, 0), (23, .getfield 36, 3, .null, 1, 7), (26, .astore_n 2, 1, .null, 0, 0), (27, .goto (-22), 3, .null, 5, 0), (30, .aconst_null, 1, .null, 0, 0), (31, .areturn, 1, .null, 0, 0)]
def am_r26 : List (Nat × am_R) := [(0, .iconst 0, 1, .int 0, 0, 0), (1, .istore_n 2, 1, .null, 0, 0), (2, .iload_n 2, 1, .null, 0, 0), (3, .aload_n 0, 1, .null, 0, 0), (4, .arraylength, 1, .null, 0, 0), (5, .if_icmp .ge 42, 3, .null, 47, 0), (8, .iload_n 2, 1, .null, 0, 0), (9, .aload_n 1, 1, .null, 0, 0), (10, .arraylength, 1, .null, 0, 0), (11, .if_icmp .ge 36, 3, .null, 47, 0), (14, .aload_n 0, 1, .null, 0, 0), (15, .iload_n 2, 1, .null, 0, 0), (16, .baload, 1, .null, 0, 0), (17, .aload_n 1, 1, .null, 0, 0), (18, .iload_n 2, 1, .null, 0, 0), (19, .baload, 1, .null, 0, 0), (20, .if_icmp .eq 21, 3, .null, 41, 0), (23, .aload_n 0, 1, .null, 0, 0), (24, .iload_n 2, 1, .null, 0, 0), (25, .baload, 1, .null, 0, 0), (26, .sipush 255, 3, .int 255, 0, 0), (29, .iand, 1, .null, 0, 0), (30, .aload_n 1, 1, .null, 0, 0), (31, .iload_n 2, 1, .null, 0, 0), (32, .baload, 1, .null, 0, 0), (33, .sipush 255, 3, .int 255, 0, 0), (36, .iand, 1, .null, 0, 0), (37, .invokestatic 15, 3, .null, 103, 0), (40, .ireturn, 1, .null, 0, 0), (41, .iinc 2 1, 3, .int 1, 0, 0), (44, .goto (-42), 3, .null, 2, 0), (47, .aload_n 0, 1, .null, 0, 0), (48, .arraylength, 1, .null, 0, 0), (49, .aload_n 1, 1, .null, 0, 0), (50, .arraylength, 1, .null, 0, 0), (51, .invokestatic 15, 3, .null, 103, 0), (54, .ireturn, 1, .null, 0, 0)]
def am_r27 : List (Nat × am_R) := [(0, .aload_n 0, 1, .null, 0, 0), (1, .getfield 29, 3, .null, 1, 6), (4, .ifnonnull 11, 3, .null, 15, 0), (7, .aload_n 0, 1, .null, 0, 0), (8, .aload_n 1, 1, .null, 0, 0), (9, .putfield 33, 3, .null, 1, 5), (12, .goto 11, 3, .null, 23, 0), (15, .aload_n 0, 1, .null, 0, 0), (16, .getfield 29, 3, .null, 1, 6), (19, .aload_n 1, 1, .null, 0, 0), (20, .putfield 36, 3, .null, 1, 7), (23, .aload_n 0, 1, .null, 0, 0), (24, .aload_n 1, 1, .null, 0, 0), (25, .putfield 29, 3, .null, 1, 6), (28, .aload_n 0, 1, .null, 0, 0), (29, .dup, 1, .null, 0, 0), (30, .getfield 26, 3, .null, 1, 4), (33, .iconst 1, 1, .int 1, 0, 0), (34, .iadd, 1, .null, 0, 0), (35, .putfield 26, 3, .null, 1, 4), (38, .return_, 1, .null, 0, 0)]
def am_r28 : List (Nat × am_R) := [(0, .aload_n 0, 1, .null, 0, 0), (1, .iload_n 1, 1, .null, 0, 0), (2, .invokevirtual 55, 3, .null, 8, 0), (5, .ifCond .ne 6, 3, .null, 11, 0), (8, .bipush (-2), 2, .int (-2), 0, 0), (10, .ireturn, 1, .null, 0, 0), (11, .aload_n 0, 1, .null, 0, 0), (12, .iconst 0, 1, .int 0, 0, 0), (13, .putfield 43, 3, .null, 0, 1), (16, .aload_n 0, 1, .null, 0, 0), (17, .getfield 9, 3, .null, 0, 0), (20, .iload_n 1, 1, .null, 0, 0), (21, .invokestatic 70, 3, .null, 29, 0), (24, .astore_n 2, 1, .null, 0, 0), (25, .aload_n 2, 1, .null, 0, 0), (26, .ifnonnull 5, 3, .null, 31, 0), (29, .iconst (-1), 1, .int (-1), 0, 0), (30, .ireturn, 1, .null, 0, 0), (31, .aload_n 0, 1, .null, 0, 0), (32, .aload_n 2, 1, .null, 0, 0), (33, .putfield 76, 3, .null, 0, 7), (36, .aload_n 2, 1, .null, 0, 0), (37, .getfield 80, 3, .null, 5, 2), (40, .ireturn, 1, .null, 0, 0)]
def am_r29 : List (Nat × am_R) := [(0, .iload_n 1, 1, .null, 0, 0), (1, .aload_n 0, 1, .null, 0, 0), (2, .arraylength, 1, .null, 0, 0), (3, .if_icmp .gt 12, 3, .null, 15, 0), (6, .aload_n 0, 1, .null, 0, 0), (7, .iconst 0, 1, .int 0, 0, 0), (8, .iload_n 1, 1, .null, 0, 0), (9, .invokestatic 23, 3, .null, 16, 0), (12, .ifCond .ne 5, 3, .null, 17, 0), (15, .aconst_null, 1, .null, 0, 0), (16, .areturn, 1, .null, 0, 0), (17, .aconst_null, 1, .null, 0, 0), (18, .astore_n 2, 1, .null, 0, 0), (19, .iload_n 1, 1, .null, 0, 0), (20, .istore_n 3, 1, .null, 0, 0), (21, .iload_n 1, 1, .null, 0, 0), (22, .iconst 1, 1, .int 1, 0, 0), (23, .isub, 1, .null, 0, 0), (24, .istore 4, 2, .null, 0, 0), (26, .iload 4, 2, .null, 0, 0), (28, .iconst (-1), 1, .int (-1), 0, 0), (29, .if_icmp .lt 93, 3, .null, 122, 0), (32, .iload 4, 2, .null, 0, 0), (34, .ifCond .lt 12, 3, .null, 46, 0), (37, .aload_n 0, 1, .null, 0, 0), (38, .iload 4, 2, .null, 0, 0), (40, .baload, 1, .null, 0, 0), (41, .ifCond .ne 5, 3, .null, 46, 0), (44, .aconst_null, 1, .null, 0, 0), (45, .areturn, 1, .null, 0, 0), (46, .iload 4, 2, .null, 0, 0), (48, .ifCond .lt 12, 3, .null, 60, 0), (51, .aload_n 0, 1, .null, 0, 0), (52, .iload 4, 2, .null, 0, 0), (54, .baload, 1, .null, 0, 0), (55, .bipush 46, 2, .int 46, 0, 0), (57, .if_icmp .ne 59, 3, .null, 116, 0), (60, .aload_n 2, 1, .null, 0, 0), (61, .ifnull 16, 3, .null, 77, 0), (64, .aload_n 2, 1, .null, 0, 0), (65, .getfield 19, 3, .null, 5, 2), (68, .bipush 8, 2, .int 8, 0, 0), (70, .if_icmp .ne 7, 3, .null, 77, 0), (73, .iconst 1, 1, .int 1, 0, 0), (74, .goto 4, 3, .null, 78, 0), (77, .iconst 0, 1, .int 0, 0, 0), (78, .istore 5, 2, .null, 0, 0), (80, .iload 4, 2, .null, 0, 0), (82, .iconst 1, 1, .int 1, 0, 0), (83, .iadd, 1, .null, 0, 0), (84, .iload_n 3, 1, .null, 0, 0), (85, .if_icmp .eq 8, 3, .null, 93, 0), (88, .iload 5, 2, .null, 0, 0), (90, .ifCond .eq 5, 3, .null, 95, 0), (93, .aconst_null, 1, .null, 0, 0), (94, .areturn, 1, .null, 0, 0), (95, .new 10, 3, .null, 5, 0), (98, .dup, 1, .null, 0, 0), (99, .aload_n 0, 1, .null, 0, 0), (100, .iload 4, 2, .null, 0, 0), (102, .iconst 1, 1, .int 1, 0, 0), (103, .iadd, 1, .null, 0, 0), (104, .iload_n 3, 1, .null, 0, 0), (105, .invokestatic 29, 3, .null, 19, 0), (108, .aload_n 2, 1, .null, 0, 0), (109, .invokespecial 33, 3, .null, 30, 0), (112, .astore_n 2, 1, .null, 0, 0), (113, .iload 4, 2, .null, 0, 0), (115, .istore_n 3, 1, .null, 0, 0), (116, .iinc 4 (-1), 3, .int (-1), 0, 0), (119, .goto (-93), 3, .null, 26, 0), (122, .aload_n 2, 1, .null, 0, 0), (123, .areturn, 1, .null, 0, 0)]
def am_r30 : List (Nat × am_R) := [(0, .aload_n 0, 1, .null, 0, 0), (1, .invokespecial 3, 3, .null, 0, 9), (4, .aload_n 0, 1, .null, 0, 0), (5, .aload_n 1, 1, .null, 0, 0), (6, .putfield 9, 3, .null, 5, 0), (9, .aload_n 0, 1, .null, 0, 0), (10, .aload_n 2, 1, .null, 0, 0), (11, .putfield 15, 3, .null, 5, 1), (14, .aload_n 0, 1, .null, 0, 0), (15, .aload_n 2, 1, .null, 0, 0), (16, .ifnonnull 7, 3, .null, 23, 0), (19, .iconst 1, 1, .int 1, 0, 0), (20, .goto 9, 3, .null, 29, 0), (23, .aload_n 2, 1, .null, 0, 0), (24, .getfield 19, 3, .null, 5, 2), (27, .iconst 1, 1, .int 1, 0, 0), (28, .iadd, 1, .null, 0, 0), (29, .putfield 19, 3, .null, 5, 2), (32, .return_, 1, .null, 0, 0)]
def am_r31 : List (Nat × am_R) := [(0, .aload_n 0, 1, .null, 0, 0), (1, .iload_n 1, 1, .null, 0, 0), (2, .invokevirtual 51, 3, .null, 7, 0), (5, .ifCond .eq 11, 3, .null, 16, 0), (8, .aload_n 0, 1, .null, 0, 0), (9, .iload_n 2, 1, .null, 0, 0), (10, .invokevirtual 51, 3, .null, 7, 0), (13, .ifCond .ne 6, 3, .null, 19, 0), (16, .bipush (-2), 2, .int (-2), 0, 0), (18, .ireturn, 1, .null, 0, 0), (19, .aload_n 0, 1, .null, 0, 0), (20, .getfield 15, 3, .null, 0, 2), (23, .iload_n 1, 1, .null, 0, 0), (24, .aaload, 1, .null, 0, 0), (25, .aload_n 0, 1, .null, 0, 0), (26, .getfield 15, 3, .null, 0, 2), (29, .iload_n 2, 1, .null, 0, 0), (30, .aaload, 1, .null, 0, 0), (31, .iconst 1, 1, .int 1, 0, 0), (32, .invokestatic 81, 3, .null, 32, 0), (35, .ireturn, 1, .null, 0, 0)]
def am_r32 : List (Nat × am_R) := [(0, .aload_n 0, 1, .null, 0, 0), (1, .ifnull 13, 3, .null, 14, 0), (4, .aload_n 1, 1, .null, 0, 0), (5, .ifnull 9, 3, .null, 14, 0), (8, .iload_n 2, 1, .null, 0, 0), (9, .bipush 17, 2, .int 17, 0, 0), (11, .if_icmp .le 5, 3, .null, 16, 0), (14, .iconst 0, 1, .int 0, 0, 0), (15, .ireturn, 1, .null, 0, 0), (16, .aload_n 0, 1, .null, 0, 0), (17, .invokevirtual 9, 3, .null, 33, 0), (20, .aload_n 1, 1, .null, 0, 0), (21, .invokevirtual 9, 3, .null, 33, 0), (24, .invokestatic 15, 3, .null, 103, 0), (27, .istore_n 3, 1, .null, 0, 0), (28, .iload_n 3, 1, .null, 0, 0), (29, .ifCond .ne 15, 3, .null, 44, 0), (32, .aload_n 0, 1, .null, 0, 0), (33, .getfield 21, 3, .null, 1, 2), (36, .aload_n 1, 1, .null, 0, 0), (37, .getfield 21, 3, .null, 1, 2), (40, .invokestatic 25, 3, .null, 104, 0), (43, .istore_n 3, 1, .null, 0, 0), (44, .iload_n 3, 1, .null, 0, 0), (45, .ifCond .ne 15, 3, .null, 60, 0), (48, .aload_n 0, 1, .null, 0, 0), (49, .getfield 30, 3, .null, 1, 3), (52, .aload_n 1, 1, .null, 0, 0), (53, .getfield 30, 3, .null, 1, 3), (56, .invokestatic 34, 3, .null, 26, 0), (59, .istore_n 3, 1, .null, 0, 0), (60, .iload_n 3, 1, .null, 0, 0), (61, .ifCond .ne 12, 3, .null, 73, 0), (64, .aload_n 0, 1, .null, 0, 0), (65, .aload_n 1, 1, .null, 0, 0), (66, .iload_n 2, 1, .null, 0, 0), (67, .invokestatic 40, 3, .null, 34, 0), (70, .goto 4, 3, .null, 74, 0), (73, .iload_n 3, 1, .null, 0, 0), (74, .ireturn, 1, .null, 0, 0)]
def am_r33 : List (Nat × am_R) := [(0, .aload_n 0, 1, .null, 0, 0), (1, .getfield 9, 3, .null, 1, 0), (4, .tableswitch 97 2 18 #[88, 90, 92, 97, 97, 97, 94, 97, 84, 97, 97, 97, 97, 97, 86, 97, 86], 84, .null, 0, 0), (88, .iconst 1, 1, .int 1, 0, 0), (89, .ireturn, 1, .null, 0, 0), (90, .iconst 2, 1, .int 2, 0, 0), (91, .ireturn, 1, .null, 0, 0), (92, .iconst 3, 1, .int 3, 0, 0), (93, .ireturn, 1, .null, 0, 0), (94, .iconst 4, 1, .int 4, 0, 0), (95, .ireturn, 1, .null, 0, 0), (96, .iconst 5, 1, .int 5, 0, 0), (97, .ireturn, 1, .null, 0, 0), (98, .bipush 6, 2, .int 6, 0, 0), (100, .ireturn, 1, .null, 0, 0), (101, .iconst 0, 1, .int 0, 0, 0), (102, .ireturn, 1, .null, 0, 0)]
def am_r34 : List (Nat × am_R) := [(0, .aload_n 0, 1, .null, 0, 0), (1, .getfield 44, 3, .null, 1, 5), (4, .astore_n 3, 1, .null, 0, 0), (5, .aload_n 1, 1, .null, 0, 0), (6, .getfield 44, 3, .null, 1, 5), (9, .astore 4, 2, .null, 0, 0), (11, .aload_n 3, 1, .null, 0, 0), (12, .ifnull 80, 3, .null, 92, 0), (15, .aload 4, 2, .null, 0, 0), (17, .ifnull 75, 3, .null, 92, 0), (20, .aload_n 3, 1, .null, 0, 0), (21, .invokevirtual 9, 3, .null, 33, 0), (24, .aload 4, 2, .null, 0, 0), (26, .invokevirtual 9, 3, .null, 33, 0), (29, .invokestatic 15, 3, .null, 103, 0), (32, .istore 5, 2, .null, 0, 0), (34, .iload 5, 2, .null, 0, 0), (36, .ifCond .ne 17, 3, .null, 53, 0), (39, .aload_n 3, 1, .null, 0, 0), (40, .getfield 48, 3, .null, 1, 1), (43, .aload 4, 2, .null, 0, 0), (45, .getfield 48, 3, .null, 1, 1), (48, .invokestatic 34, 3, .null, 26, 0), (51, .istore 5, 2, .null, 0, 0), (53, .iload 5, 2, .null, 0, 0), (55, .ifCond .ne 14, 3, .null, 69, 0), (58, .aload_n 3, 1, .null, 0, 0), (59, .aload 4, 2, .null, 0, 0), (61, .iload_n 2, 1, .null, 0, 0), (62, .iconst 1, 1, .int 1, 0, 0), (63, .iadd, 1, .null, 0, 0), (64, .invokestatic 51, 3, .null, 32, 0), (67, .istore 5, 2, .null, 0, 0), (69, .iload 5, 2, .null, 0, 0), (71, .ifCond .eq 6, 3, .null, 77, 0), (74, .iload 5, 2, .null, 0, 0), (76, .ireturn, 1, .null, 0, 0), (77, .aload_n 3, 1, .null, 0, 0), (78, .getfield 54, 3, .null, 1, 7), (81, .astore_n 3, 1, .null, 0, 0), (82, .aload 4, 2, .null, 0, 0), (84, .getfield 54, 3, .null, 1, 7), (87, .astore 4, 2, .null, 0, 0), (89, .goto (-78), 3, .null, 11, 0), (92, .aload_n 0, 1, .null, 0, 0), (93, .getfield 57, 3, .null, 1, 4), (96, .aload_n 1, 1, .null, 0, 0), (97, .getfield 57, 3, .null, 1, 4), (100, .invokestatic 15, 3, .null, 103, 0), (103, .ireturn, 1, .null, 0, 0)]
def am_r35 : List (Nat × am_R) := [(0, .aload_n 0, 1, .null, 0, 0), (1, .iload_n 1, 1, .null, 0, 0), (2, .invokevirtual 87, 3, .null, 36, 0), (5, .ifCond .eq 18, 3, .null, 23, 0), (8, .aload_n 0, 1, .null, 0, 0), (9, .iload_n 2, 1, .null, 0, 0), (10, .invokevirtual 51, 3, .null, 7, 0), (13, .ifCond .eq 10, 3, .null, 23, 0), (16, .aload_n 0, 1, .null, 0, 0), (17, .getfield 76, 3, .null, 0, 7), (20, .ifnonnull 6, 3, .null, 26, 0), (23, .bipush (-2), 2, .int (-2), 0, 0), (25, .ireturn, 1, .null, 0, 0), (26, .aload_n 0, 1, .null, 0, 0), (27, .aload_n 0, 1, .null, 0, 0), (28, .getfield 27, 3, .null, 0, 3), (31, .iload_n 1, 1, .null, 0, 0), (32, .aaload, 1, .null, 0, 0), (33, .aload_n 0, 1, .null, 0, 0), (34, .getfield 15, 3, .null, 0, 2), (37, .iload_n 2, 1, .null, 0, 0), (38, .aaload, 1, .null, 0, 0), (39, .iload_n 3, 1, .null, 0, 0), (40, .invokevirtual 90, 3, .null, 37, 0), (43, .ifCond .eq 15, 3, .null, 58, 0), (46, .aload_n 0, 1, .null, 0, 0), (47, .getfield 27, 3, .null, 0, 3), (50, .iload_n 1, 1, .null, 0, 0), (51, .aaload, 1, .null, 0, 0), (52, .getfield 94, 3, .null, 2, 4), (55, .goto 4, 3, .null, 59, 0), (58, .iconst (-1), 1, .int (-1), 0, 0), (59, .ireturn, 1, .null, 0, 0)]
def am_r36 : List (Nat × am_R) := [(0, .iload_n 1, 1, .null, 0, 0), (1, .ifCond .lt 16, 3, .null, 17, 0), (4, .iload_n 1, 1, .null, 0, 0), (5, .aload_n 0, 1, .null, 0, 0), (6, .getfield 27, 3, .null, 0, 3), (9, .arraylength, 1, .null, 0, 0), (10, .if_icmp .ge 7, 3, .null, 17, 0), (13, .iconst 1, 1, .int 1, 0, 0), (14, .goto 4, 3, .null, 18, 0), (17, .iconst 0, 1, .int 0, 0, 0), (18, .ireturn, 1, .null, 0, 0)]
def am_r37 : List (Nat × am_R) := [(0, .aload_n 1, 1, .null, 0, 0), (1, .invokevirtual 134, 3, .null, 38, 0), (4, .new 137, 3, .null, 4, 0), (7, .dup, 1, .null, 0, 0), (8, .aload_n 1, 1, .null, 0, 0), (9, .iload_n 3, 1, .null, 0, 0), (10, .aload_n 0, 1, .null, 0, 0), (11, .getfield 39, 3, .null, 0, 6), (14, .invokespecial 139, 3, .null, 39, 0), (17, .aload_n 2, 1, .null, 0, 0), (18, .aload_n 0, 1, .null, 0, 0), (19, .getfield 76, 3, .null, 0, 7), (22, .iconst 1, 1, .int 1, 0, 0), (23, .invokevirtual 142, 3, .null, 40, 0), (26, .aload_n 1, 1, .null, 0, 0), (27, .getfield 146, 3, .null, 2, 5), (30, .ifCond .eq 9, 3, .null, 39, 0), (33, .aload_n 1, 1, .null, 0, 0), (34, .invokevirtual 134, 3, .null, 38, 0), (37, .iconst 0, 1, .int 0, 0, 0), (38, .ireturn, 1, .null, 0, 0), (39, .iconst 1, 1, .int 1, 0, 0), (40, .ireturn, 1, .null, 0, 0)]
def am_r38 : List (Nat × am_R) := [(0, .aload_n 0, 1, .null, 0, 0), (1, .iconst 0, 1, .int 0, 0, 0), (2, .putfield 27, 3, .null, 2, 4), (5, .aload_n 0, 1, .null, 0, 0), (6, .iconst 0, 1, .int 0, 0, 0), (7, .putfield 31, 3, .null, 2, 5), (10, .return_, 1, .null, 0, 0)]
def am_r39 : List (Nat × am_R) := [(0, .aload_n 0, 1, .null, 0, 0), (1, .invokespecial 3, 3, .null, 0, 9), (4, .aload_n 0, 1, .null, 0, 0), (5, .aload_n 1, 1, .null, 0, 0), (6, .putfield 9, 3, .null, 4, 0), (9, .aload_n 0, 1, .null, 0, 0), (10, .iload_n 2, 1, .null, 0, 0), (11, .putfield 15, 3, .null, 4, 1), (14, .aload_n 0, 1, .null, 0, 0), (15, .aload_n 3, 1, .null, 0, 0), (16, .putfield 19, 3, .null, 4, 2), (19, .return_, 1, .null, 0, 0)]
def am_r40 : List (Nat × am_R) := [(0, .aload_n 0, 1, .null, 0, 0), (1, .getfield 9, 3, .null, 4, 0), (4, .getfield 23, 3, .null, 2, 5), (7, .ifCond .ne 9, 3, .null, 16, 0), (10, .iload_n 3, 1, .null, 0, 0), (11, .bipush 17, 2, .int 17, 0, 0), (13, .if_icmp .le 4, 3, .null, 17, 0), (16, .return_, 1, .null, 0, 0), (17, .aload_n 2, 1, .null, 0, 0), (18, .ifnonnull 11, 3, .null, 29, 0), (21, .aload_n 0, 1, .null, 0, 0), (22, .aload_n 1, 1, .null, 0, 0), (23, .invokevirtual 28, 3, .null, 41, 0), (26, .goto 28, 3, .null, 54, 0), (29, .aload_n 1, 1, .null, 0, 0), (30, .getfield 32, 3, .null, 1, 0), (33, .iconst 4, 1, .int 4, 0, 0), (34, .if_icmp .ne 13, 3, .null, 47, 0), (37, .aload_n 0, 1, .null, 0, 0), (38, .aload_n 1, 1, .null, 0, 0), (39, .aload_n 2, 1, .null, 0, 0), (40, .iload_n 3, 1, .null, 0, 0), (41, .invokevirtual 38, 3, .null, 43, 0), (44, .goto 10, 3, .null, 54, 0), (47, .aload_n 0, 1, .null, 0, 0), (48, .aload_n 1, 1, .null, 0, 0), (49, .aload_n 2, 1, .null, 0, 0), (50, .iload_n 3, 1, .null, 0, 0), (51, .invokevirtual 42, 3, .null, 44, 0), (54, .return_, 1, .null, 0, 0)]
def am_r41 : List (Nat × am_R) := [(0, .aload_n 0, 1, .null, 0, 0), (1, .getfield 9, 3, .null, 4, 0), (4, .aload_n 1, 1, .null, 0, 0), (5, .invokevirtual 67, 3, .null, 42, 0), (8, .aload_n 0, 1, .null, 0, 0), (9, .getfield 15, 3, .null, 4, 1), (12, .ifCond .eq 11, 3, .null, 23, 0), (15, .aload_n 1, 1, .null, 0, 0), (16, .getfield 32, 3, .null, 1, 0), (19, .iconst 4, 1, .int 4, 0, 0), (20, .if_icmp .eq 4, 3, .null, 24, 0), (23, .return_, 1, .null, 0, 0), (24, .aload_n 1, 1, .null, 0, 0), (25, .getfield 62, 3, .null, 1, 5), (28, .astore_n 2, 1, .null, 0, 0), (29, .aload_n 2, 1, .null, 0, 0), (30, .ifnull 29, 3, .null, 59, 0), (33, .aload_n 0, 1, .null, 0, 0), (34, .getfield 9, 3, .null, 4, 0), (37, .getfield 23, 3, .null, 2, 5), (40, .ifCond .ne 19, 3, .null, 59, 0), (43, .aload_n 0, 1, .null, 0, 0), (44, .getfield 9, 3, .null, 4, 0), (47, .aload_n 2, 1, .null, 0, 0), (48, .invokevirtual 67, 3, .null, 42, 0), (51, .aload_n 2, 1, .null, 0, 0), (52, .getfield 65, 3, .null, 1, 7), (55, .astore_n 2, 1, .null, 0, 0), (56, .goto (-27), 3, .null, 29, 0), (59, .return_, 1, .null, 0, 0)]
def am_r42 : List (Nat × am_R) := [(0, .aload_n 0, 1, .null, 0, 0), (1, .getfield 27, 3, .null, 2, 4), (4, .aload_n 0, 1, .null, 0, 0), (5, .getfield 11, 3, .null, 2, 0), (8, .arraylength, 1, .null, 0, 0), (9, .if_icmp .lt 9, 3, .null, 18, 0), (12, .aload_n 0, 1, .null, 0, 0), (13, .iconst 1, 1, .int 1, 0, 0), (14, .putfield 31, 3, .null, 2, 5), (17, .return_, 1, .null, 0, 0), (18, .aload_n 0, 1, .null, 0, 0), (19, .getfield 11, 3, .null, 2, 0), (22, .aload_n 0, 1, .null, 0, 0), (23, .getfield 27, 3, .null, 2, 4), (26, .aload_n 1, 1, .null, 0, 0), (27, .aastore, 1, .null, 0, 0), (28, .aload_n 0, 1, .null, 0, 0), (29, .getfield 17, 3, .null, 2, 1), (32, .aload_n 0, 1, .null, 0, 0), (33, .getfield 27, 3, .null, 2, 4), (36, .aload_n 0, 1, .null, 0, 0), (37, .getfield 27, 3, .null, 2, 4), (40, .iastore, 1, .null, 0, 0), (41, .aload_n 0, 1, .null, 0, 0), (42, .dup, 1, .null, 0, 0), (43, .getfield 27, 3, .null, 2, 4), (46, .iconst 1, 1, .int 1, 0, 0), (47, .iadd, 1, .null, 0, 0), (48, .putfield 27, 3, .null, 2, 4), (51, .return_, 1, .null, 0, 0)]
def am_r43 : List (Nat × am_R) := [(0, .aload_n 1, 1, .null, 0, 0), (1, .aload_n 2, 1, .null, 0, 0), (2, .getfield 45, 3, .null, 5, 0), (5, .invokevirtual 51, 3, .null, 25, 0), (8, .astore 4, 2, .null, 0, 0), (10, .aload 4, 2, .null, 0, 0), (12, .ifnull 16, 3, .null, 28, 0), (15, .aload_n 0, 1, .null, 0, 0), (16, .aload 4, 2, .null, 0, 0), (18, .aload_n 2, 1, .null, 0, 0), (19, .getfield 55, 3, .null, 5, 1), (22, .iload_n 3, 1, .null, 0, 0), (23, .iconst 1, 1, .int 1, 0, 0), (24, .iadd, 1, .null, 0, 0), (25, .invokevirtual 59, 3, .null, 40, 0), (28, .aload_n 1, 1, .null, 0, 0), (29, .getfield 62, 3, .null, 1, 5), (32, .astore 5, 2, .null, 0, 0), (34, .aload 5, 2, .null, 0, 0), (36, .ifnull 42, 3, .null, 78, 0), (39, .aload_n 0, 1, .null, 0, 0), (40, .getfield 9, 3, .null, 4, 0), (43, .getfield 23, 3, .null, 2, 5), (46, .ifCond .ne 32, 3, .null, 78, 0), (49, .aload 5, 2, .null, 0, 0), (51, .getfield 32, 3, .null, 1, 0), (54, .iconst 3, 1, .int 3, 0, 0), (55, .if_icmp .ne 13, 3, .null, 68, 0), (58, .aload_n 0, 1, .null, 0, 0), (59, .aload 5, 2, .null, 0, 0), (61, .aload_n 2, 1, .null, 0, 0), (62, .iload_n 3, 1, .null, 0, 0), (63, .iconst 1, 1, .int 1, 0, 0), (64, .iadd, 1, .null, 0, 0), (65, .invokevirtual 59, 3, .null, 40, 0), (68, .aload 5, 2, .null, 0, 0), (70, .getfield 65, 3, .null, 1, 7), (73, .astore 5, 2, .null, 0, 0), (75, .goto (-41), 3, .null, 34, 0), (78, .return_, 1, .null, 0, 0)]
def am_r44 : List (Nat × am_R) := [(0, .aload_n 1, 1, .null, 0, 0), (1, .aload_n 2, 1, .null, 0, 0), (2, .getfield 45, 3, .null, 5, 0), (5, .invokevirtual 51, 3, .null, 25, 0), (8, .astore 4, 2, .null, 0, 0), (10, .aload 4, 2, .null, 0, 0), (12, .ifnonnull 17, 3, .null, 29, 0), (15, .aload_n 0, 1, .null, 0, 0), (16, .getfield 9, 3, .null, 4, 0), (19, .aload_n 0, 1, .null, 0, 0), (20, .getfield 19, 3, .null, 4, 2), (23, .invokevirtual 67, 3, .null, 42, 0), (26, .goto 16, 3, .null, 42, 0), (29, .aload_n 0, 1, .null, 0, 0), (30, .aload 4, 2, .null, 0, 0), (32, .aload_n 2, 1, .null, 0, 0), (33, .getfield 55, 3, .null, 5, 1), (36, .iload_n 3, 1, .null, 0, 0), (37, .iconst 1, 1, .int 1, 0, 0), (38, .iadd, 1, .null, 0, 0), (39, .invokevirtual 59, 3, .null, 40, 0), (42, .return_, 1, .null, 0, 0)]
def am_r45 : List (Nat × am_R) := [(0, .aload_n 0, 1, .null, 0, 0), (1, .iload_n 1, 1, .null, 0, 0), (2, .iload_n 2, 1, .null, 0, 0), (3, .invokevirtual 97, 3, .null, 46, 0), (6, .astore 4, 2, .null, 0, 0), (8, .aload 4, 2, .null, 0, 0), (10, .ifnonnull 7, 3, .null, 17, 0), (13, .ldc2_w 101, 3, .long (-1), 0, 0), (16, .lreturn, 1, .null, 0, 0), (17, .iload_n 3, 1, .null, 0, 0), (18, .tableswitch 57 0 3 #[30, 37, 44, 50], 30, .null, 0, 0), (48, .aload 4, 2, .null, 0, 0), (50, .getfield 103, 3, .null, 1, 0), (53, .i2l, 1, .null, 0, 0), (54, .lreturn, 1, .null, 0, 0), (55, .aload 4, 2, .null, 0, 0), (57, .invokevirtual 106, 3, .null, 33, 0), (60, .i2l, 1, .null, 0, 0), (61, .lreturn, 1, .null, 0, 0), (62, .aload 4, 2, .null, 0, 0), (64, .getfield 110, 3, .null, 1, 2), (67, .lreturn, 1, .null, 0, 0), (68, .aload 4, 2, .null, 0, 0), (70, .getfield 67, 3, .null, 1, 4), (73, .i2l, 1, .null, 0, 0), (74, .lreturn, 1, .null, 0, 0), (75, .ldc2_w 101, 3, .long (-1), 0, 0), (78, .lreturn, 1, .null, 0, 0)]
def am_r46 : List (Nat × am_R) := [(0, .aload_n 0, 1, .null, 0, 0), (1, .iload_n 1, 1, .null, 0, 0), (2, .invokevirtual 87, 3, .null, 36, 0), (5, .ifCond .eq 16, 3, .null, 21, 0), (8, .aload_n 0, 1, .null, 0, 0), (9, .getfield 27, 3, .null, 0, 3), (12, .iload_n 1, 1, .null, 0, 0), (13, .aaload, 1, .null, 0, 0), (14, .iload_n 2, 1, .null, 0, 0), (15, .invokevirtual 131, 3, .null, 47, 0), (18, .goto 4, 3, .null, 22, 0), (21, .aconst_null, 1, .null, 0, 0), (22, .areturn, 1, .null, 0, 0)]
def am_r47 : List (Nat × am_R) := [(0, .iload_n 1, 1, .null, 0, 0), (1, .ifCond .lt 20, 3, .null, 21, 0), (4, .iload_n 1, 1, .null, 0, 0), (5, .aload_n 0, 1, .null, 0, 0), (6, .getfield 27, 3, .null, 2, 4), (9, .if_icmp .ge 12, 3, .null, 21, 0), (12, .aload_n 0, 1, .null, 0, 0), (13, .getfield 11, 3, .null, 2, 0), (16, .iload_n 1, 1, .null, 0, 0), (17, .aaload, 1, .null, 0, 0), (18, .goto 4, 3, .null, 22, 0), (21, .aconst_null, 1, .null, 0, 0), (22, .areturn, 1, .null, 0, 0)]
def am_r48 : List (Nat × am_R) := [(0, .aload_n 0, 1, .null, 0, 0), (1, .iload_n 1, 1, .null, 0, 0), (2, .iload_n 2, 1, .null, 0, 0), (3, .invokevirtual 97, 3, .null, 46, 0), (6, .astore 4, 2, .null, 0, 0), (8, .aload 4, 2, .null, 0, 0), (10, .ifnull 17, 3, .null, 27, 0), (13, .iload_n 3, 1, .null, 0, 0), (14, .ifCond .lt 13, 3, .null, 27, 0), (17, .iload_n 3, 1, .null, 0, 0), (18, .aload 4, 2, .null, 0, 0), (20, .getfield 114, 3, .null, 1, 3), (23, .arraylength, 1, .null, 0, 0), (24, .if_icmp .lt 5, 3, .null, 29, 0), (27, .iconst (-1), 1, .int (-1), 0, 0), (28, .ireturn, 1, .null, 0, 0), (29, .aload 4, 2, .null, 0, 0), (31, .getfield 114, 3, .null, 1, 3), (34, .iload_n 3, 1, .null, 0, 0), (35, .baload, 1, .null, 0, 0), (36, .sipush 255, 3, .int 255, 0, 0), (39, .iand, 1, .null, 0, 0), (40, .ireturn, 1, .null, 0, 0)]
def am_r49 : List (Nat × am_R) := [(0, .aload_n 0, 1, .null, 0, 0), (1, .iconst 0, 1, .int 0, 0, 0), (2, .iload_n 1, 1, .null, 0, 0), (3, .invokevirtual 97, 3, .null, 46, 0), (6, .astore_n 3, 1, .null, 0, 0), (7, .aload_n 0, 1, .null, 0, 0), (8, .iconst 1, 1, .int 1, 0, 0), (9, .iload_n 2, 1, .null, 0, 0), (10, .invokevirtual 97, 3, .null, 46, 0), (13, .astore 4, 2, .null, 0, 0), (15, .aload_n 3, 1, .null, 0, 0), (16, .ifnull 8, 3, .null, 24, 0), (19, .aload 4, 2, .null, 0, 0), (21, .ifnonnull 6, 3, .null, 27, 0), (24, .bipush (-2), 2, .int (-2), 0, 0), (26, .ireturn, 1, .null, 0, 0), (27, .aload_n 3, 1, .null, 0, 0), (28, .aload 4, 2, .null, 0, 0), (30, .iconst 1, 1, .int 1, 0, 0), (31, .invokestatic 81, 3, .null, 32, 0), (34, .ireturn, 1, .null, 0, 0)]
def am_r50 : List (Nat × am_R) := [(0, .aload_n 0, 1, .null, 0, 0), (1, .iload_n 1, 1, .null, 0, 0), (2, .invokevirtual 87, 3, .null, 36, 0), (5, .ifCond .ne 5, 3, .null, 10, 0), (8, .iconst (-1), 1, .int (-1), 0, 0), (9, .ireturn, 1, .null, 0, 0), (10, .aload_n 0, 1, .null, 0, 0), (11, .getfield 27, 3, .null, 0, 3), (14, .iload_n 1, 1, .null, 0, 0), (15, .aaload, 1, .null, 0, 0), (16, .invokevirtual 117, 3, .null, 51, 0), (19, .aload_n 0, 1, .null, 0, 0), (20, .getfield 27, 3, .null, 0, 3), (23, .iload_n 1, 1, .null, 0, 0), (24, .aaload, 1, .null, 0, 0), (25, .invokevirtual 120, 3, .null, 53, 0), (28, .ireturn, 1, .null, 0, 0)]
def am_r51 : List (Nat × am_R) := [(0, .iconst 1, 1, .int 1, 0, 0), (1, .istore_n 1, 1, .null, 0, 0), (2, .iload_n 1, 1, .null, 0, 0), (3, .aload_n 0, 1, .null, 0, 0), (4, .getfield 27, 3, .null, 2, 4), (7, .if_icmp .ge 51, 3, .null, 58, 0), (10, .iconst 0, 1, .int 0, 0, 0), (11, .istore_n 2, 1, .null, 0, 0), (12, .iload_n 2, 1, .null, 0, 0), (13, .iload_n 1, 1, .null, 0, 0), (14, .iadd, 1, .null, 0, 0), (15, .aload_n 0, 1, .null, 0, 0), (16, .getfield 27, 3, .null, 2, 4), (19, .if_icmp .ge 32, 3, .null, 51, 0), (22, .aload_n 0, 1, .null, 0, 0), (23, .iload_n 2, 1, .null, 0, 0), (24, .iload_n 2, 1, .null, 0, 0), (25, .iload_n 1, 1, .null, 0, 0), (26, .iadd, 1, .null, 0, 0), (27, .iload_n 2, 1, .null, 0, 0), (28, .iconst 2, 1, .int 2, 0, 0), (29, .iload_n 1, 1, .null, 0, 0), (30, .imul, 1, .null, 0, 0), (31, .iadd, 1, .null, 0, 0), (32, .aload_n 0, 1, .null, 0, 0), (33, .getfield 27, 3, .null, 2, 4), (36, .invokestatic 35, 3, .null, 0, 8), (39, .invokevirtual 41, 3, .null, 52, 0), (42, .iload_n 2, 1, .null, 0, 0), (43, .iconst 2, 1, .int 2, 0, 0), (44, .iload_n 1, 1, .null, 0, 0), (45, .imul, 1, .null, 0, 0), (46, .iadd, 1, .null, 0, 0), (47, .istore_n 2, 1, .null, 0, 0), (48, .goto (-36), 3, .null, 12, 0), (51, .iload_n 1, 1, .null, 0, 0), (52, .iconst 2, 1, .int 2, 0, 0), (53, .imul, 1, .null, 0, 0), (54, .istore_n 1, 1, .null, 0, 0), (55, .goto (-53), 3, .null, 2, 0), (58, .return_, 1, .null, 0, 0)]
def am_r52 : List (Nat × am_R) := [(0, .aload_n 0, 1, .null, 0, 0), (1, .iload_n 2, 1, .null, 0, 0), (2, .iconst 1, 1, .int 1, 0, 0), (3, .isub, 1, .null, 0, 0), (4, .invokevirtual 45, 3, .null, 47, 0), (7, .aload_n 0, 1, .null, 0, 0), (8, .iload_n 2, 1, .null, 0, 0), (9, .invokevirtual 45, 3, .null, 47, 0), (12, .iconst 1, 1, .int 1, 0, 0), (13, .invokestatic 49, 3, .null, 32, 0), (16, .ifCond .gt 4, 3, .null, 20, 0), (19, .return_, 1, .null, 0, 0), (20, .iload_n 2, 1, .null, 0, 0), (21, .iload_n 1, 1, .null, 0, 0), (22, .isub, 1, .null, 0, 0), (23, .istore 4, 2, .null, 0, 0), (25, .iconst 0, 1, .int 0, 0, 0), (26, .istore 5, 2, .null, 0, 0), (28, .iload 5, 2, .null, 0, 0), (30, .iload 4, 2, .null, 0, 0), (32, .if_icmp .ge 41, 3, .null, 73, 0), (35, .aload_n 0, 1, .null, 0, 0), (36, .getfield 21, 3, .null, 2, 2), (39, .iload 5, 2, .null, 0, 0), (41, .aload_n 0, 1, .null, 0, 0), (42, .getfield 11, 3, .null, 2, 0), (45, .iload_n 1, 1, .null, 0, 0), (46, .iload 5, 2, .null, 0, 0), (48, .iadd, 1, .null, 0, 0), (49, .aaload, 1, .null, 0, 0), (50, .aastore, 1, .null, 0, 0), (51, .aload_n 0, 1, .null, 0, 0), (52, .getfield 24, 3, .null, 2, 3), (55, .iload 5, 2, .null, 0, 0), (57, .aload_n 0, 1, .null, 0, 0), (58, .getfield 17, 3, .null, 2, 1), (61, .iload_n 1, 1, .null, 0, 0), (62, .iload 5, 2, .null, 0, 0), (64, .iadd, 1, .null, 0, 0), (65, .iaload, 1, .null, 0, 0), (66, .iastore, 1, .null, 0, 0), (67, .iinc 5 1, 3, .int 1, 0, 0), (70, .goto (-42), 3, .null, 28, 0), (73, .iconst 0, 1, .int 0, 0, 0), (74, .istore 5, 2, .null, 0, 0), (76, .iload_n 2, 1, .null, 0, 0), (77, .istore 6, 2, .null, 0, 0), (79, .iload_n 1, 1, .null, 0, 0), (80, .istore 7, 2, .null, 0, 0), (82, .iload 7, 2, .null, 0, 0), (84, .iload_n 3, 1, .null, 0, 0), (85, .if_icmp .ge 108, 3, .null, 193, 0), (88, .iload 5, 2, .null, 0, 0), (90, .iload 4, 2, .null, 0, 0), (92, .if_icmp .ge 101, 3, .null, 193, 0), (95, .iload 6, 2, .null, 0, 0), (97, .iload_n 3, 1, .null, 0, 0), (98, .if_icmp .ge 58, 3, .null, 156, 0), (101, .aload_n 0, 1, .null, 0, 0), (102, .getfield 11, 3, .null, 2, 0), (105, .iload 6, 2, .null, 0, 0), (107, .aaload, 1, .null, 0, 0), (108, .aload_n 0, 1, .null, 0, 0), (109, .getfield 21, 3, .null, 2, 2), (112, .iload 5, 2, .null, 0, 0), (114, .aaload, 1, .null, 0, 0), (115, .iconst 1, 1, .int 1, 0, 0), (116, .invokestatic 49, 3, .null, 32, 0), (119, .ifCond .ge 37, 3, .null, 156, 0), (122, .aload_n 0, 1, .null, 0, 0), (123, .getfield 11, 3, .null, 2, 0), (126, .iload 7, 2, .null, 0, 0), (128, .aload_n 0, 1, .null, 0, 0), (129, .getfield 11, 3, .null, 2, 0), (132, .iload 6, 2, .null, 0, 0), (134, .aaload, 1, .null, 0, 0), (135, .aastore, 1, .null, 0, 0), (136, .aload_n 0, 1, .null, 0, 0), (137, .getfield 17, 3, .null, 2, 1), (140, .iload 7, 2, .null, 0, 0), (142, .aload_n 0, 1, .null, 0, 0), (143, .getfield 17, 3, .null, 2, 1), (146, .iload 6, 2, .null, 0, 0), (148, .iaload, 1, .null, 0, 0), (149, .iastore, 1, .null, 0, 0), (150, .iinc 6 1, 3, .int 1, 0, 0), (153, .goto 34, 3, .null, 187, 0), (156, .aload_n 0, 1, .null, 0, 0), (157, .getfield 11, 3, .null, 2, 0), (160, .iload 7, 2, .null, 0, 0), (162, .aload_n 0, 1, .null, 0, 0), (163, .getfield 21, 3, .null, 2, 2), (166, .iload 5, 2, .null, 0, 0), (168, .aaload, 1, .null, 0, 0), (169, .aastore, 1, .null, 0, 0), (170, .aload_n 0, 1, .null, 0, 0), (171, .getfield 17, 3, .null, 2, 1), (174, .iload 7, 2, .null, 0, 0), (176, .aload_n 0, 1, .null, 0, 0), (177, .getfield 24, 3, .null, 2, 3), (180, .iload 5, 2, .null, 0, 0), (182, .iaload, 1, .null, 0, 0), (183, .iastore, 1, .null, 0, 0), (184, .iinc 5 1, 3, .int 1, 0, 0), (187, .iinc 7 1, 3, .int 1, 0, 0), (190, .goto (-108), 3, .null, 82, 0), (193, .return_, 1, .null, 0, 0)]
def am_r53 : List (Nat × am_R) := [(0, .iconst 0, 1, .int 0, 0, 0), (1, .istore_n 1, 1, .null, 0, 0), (2, .iconst 0, 1, .int 0, 0, 0), (3, .istore_n 2, 1, .null, 0, 0), (4, .iload_n 2, 1, .null, 0, 0), (5, .aload_n 0, 1, .null, 0, 0), (6, .getfield 27, 3, .null, 2, 4), (9, .if_icmp .ge 37, 3, .null, 46, 0), (12, .iload_n 2, 1, .null, 0, 0), (13, .ifCond .eq 24, 3, .null, 37, 0), (16, .aload_n 0, 1, .null, 0, 0), (17, .getfield 11, 3, .null, 2, 0), (20, .iload_n 2, 1, .null, 0, 0), (21, .iconst 1, 1, .int 1, 0, 0), (22, .isub, 1, .null, 0, 0), (23, .aaload, 1, .null, 0, 0), (24, .aload_n 0, 1, .null, 0, 0), (25, .getfield 11, 3, .null, 2, 0), (28, .iload_n 2, 1, .null, 0, 0), (29, .aaload, 1, .null, 0, 0), (30, .iconst 1, 1, .int 1, 0, 0), (31, .invokestatic 49, 3, .null, 32, 0), (34, .ifCond .eq 6, 3, .null, 40, 0), (37, .iinc 1 1, 3, .int 1, 0, 0), (40, .iinc 2 1, 3, .int 1, 0, 0), (43, .goto (-39), 3, .null, 4, 0), (46, .iload_n 1, 1, .null, 0, 0), (47, .ireturn, 1, .null, 0, 0)]
def am_r54 : List (Nat × am_R) := [(0, .aload_n 0, 1, .null, 0, 0), (1, .iload_n 1, 1, .null, 0, 0), (2, .invokevirtual 87, 3, .null, 36, 0), (5, .ifCond .eq 16, 3, .null, 21, 0), (8, .aload_n 0, 1, .null, 0, 0), (9, .getfield 27, 3, .null, 0, 3), (12, .iload_n 1, 1, .null, 0, 0), (13, .aaload, 1, .null, 0, 0), (14, .iload_n 2, 1, .null, 0, 0), (15, .invokevirtual 123, 3, .null, 55, 0), (18, .goto 4, 3, .null, 22, 0), (21, .iconst (-1), 1, .int (-1), 0, 0), (22, .ireturn, 1, .null, 0, 0)]
def am_r55 : List (Nat × am_R) := [(0, .iload_n 1, 1, .null, 0, 0), (1, .ifCond .lt 20, 3, .null, 21, 0), (4, .iload_n 1, 1, .null, 0, 0), (5, .aload_n 0, 1, .null, 0, 0), (6, .getfield 27, 3, .null, 2, 4), (9, .if_icmp .ge 12, 3, .null, 21, 0), (12, .aload_n 0, 1, .null, 0, 0), (13, .getfield 17, 3, .null, 2, 1), (16, .iload_n 1, 1, .null, 0, 0), (17, .iaload, 1, .null, 0, 0), (18, .goto 4, 3, .null, 22, 0), (21, .iconst (-1), 1, .int (-1), 0, 0), (22, .ireturn, 1, .null, 0, 0)]
def am_r56 : List (Nat × am_R) := [(0, .aload_n 0, 1, .null, 0, 0), (1, .iload_n 1, 1, .null, 0, 0), (2, .invokevirtual 51, 3, .null, 7, 0), (5, .ifCond .eq 18, 3, .null, 23, 0), (8, .aload_n 0, 1, .null, 0, 0), (9, .iload_n 2, 1, .null, 0, 0), (10, .invokevirtual 51, 3, .null, 7, 0), (13, .ifCond .eq 10, 3, .null, 23, 0), (16, .aload_n 0, 1, .null, 0, 0), (17, .getfield 76, 3, .null, 0, 7), (20, .ifnonnull 5, 3, .null, 25, 0), (23, .iconst 0, 1, .int 0, 0, 0), (24, .ireturn, 1, .null, 0, 0), (25, .aload_n 0, 1, .null, 0, 0), (26, .aload_n 0, 1, .null, 0, 0), (27, .getfield 32, 3, .null, 0, 4), (30, .aload_n 0, 1, .null, 0, 0), (31, .getfield 15, 3, .null, 0, 2), (34, .iload_n 1, 1, .null, 0, 0), (35, .aaload, 1, .null, 0, 0), (36, .iload_n 3, 1, .null, 0, 0), (37, .invokevirtual 90, 3, .null, 37, 0), (40, .ifCond .eq 21, 3, .null, 61, 0), (43, .aload_n 0, 1, .null, 0, 0), (44, .aload_n 0, 1, .null, 0, 0), (45, .getfield 36, 3, .null, 0, 5), (48, .aload_n 0, 1, .null, 0, 0), (49, .getfield 15, 3, .null, 0, 2), (52, .iload_n 2, 1, .null, 0, 0), (53, .aaload, 1, .null, 0, 0), (54, .iload_n 3, 1, .null, 0, 0), (55, .invokevirtual 90, 3, .null, 37, 0), (58, .ifCond .ne 5, 3, .null, 63, 0), (61, .iconst 0, 1, .int 0, 0, 0), (62, .ireturn, 1, .null, 0, 0), (63, .aload_n 0, 1, .null, 0, 0), (64, .getfield 32, 3, .null, 0, 4), (67, .invokevirtual 117, 3, .null, 51, 0), (70, .aload_n 0, 1, .null, 0, 0), (71, .getfield 36, 3, .null, 0, 5), (74, .invokevirtual 117, 3, .null, 51, 0), (77, .aload_n 0, 1, .null, 0, 0), (78, .getfield 32, 3, .null, 0, 4), (81, .aload_n 0, 1, .null, 0, 0), (82, .getfield 36, 3, .null, 0, 5), (85, .invokevirtual 127, 3, .null, 57, 0), (88, .ireturn, 1, .null, 0, 0)]
def am_r57 : List (Nat × am_R) := [(0, .iconst 0, 1, .int 0, 0, 0), (1, .istore_n 2, 1, .null, 0, 0), (2, .iconst 0, 1, .int 0, 0, 0), (3, .istore_n 3, 1, .null, 0, 0), (4, .iload_n 2, 1, .null, 0, 0), (5, .aload_n 0, 1, .null, 0, 0), (6, .getfield 27, 3, .null, 2, 4), (9, .if_icmp .ge 53, 3, .null, 62, 0), (12, .iload_n 3, 1, .null, 0, 0), (13, .aload_n 1, 1, .null, 0, 0), (14, .getfield 27, 3, .null, 2, 4), (17, .if_icmp .ge 45, 3, .null, 62, 0), (20, .aload_n 0, 1, .null, 0, 0), (21, .getfield 11, 3, .null, 2, 0), (24, .iload_n 2, 1, .null, 0, 0), (25, .aaload, 1, .null, 0, 0), (26, .aload_n 1, 1, .null, 0, 0), (27, .getfield 11, 3, .null, 2, 0), (30, .iload_n 3, 1, .null, 0, 0), (31, .aaload, 1, .null, 0, 0), (32, .iconst 1, 1, .int 1, 0, 0), (33, .invokestatic 49, 3, .null, 32, 0), (36, .istore 4, 2, .null, 0, 0), (38, .iload 4, 2, .null, 0, 0), (40, .ifCond .ne 5, 3, .null, 45, 0), (43, .iconst 1, 1, .int 1, 0, 0), (44, .ireturn, 1, .null, 0, 0), (45, .iload 4, 2, .null, 0, 0), (47, .ifCond .ge 9, 3, .null, 56, 0), (50, .iinc 2 1, 3, .int 1, 0, 0), (53, .goto 6, 3, .null, 59, 0), (56, .iinc 3 1, 3, .int 1, 0, 0), (59, .goto (-55), 3, .null, 4, 0), (62, .iconst 0, 1, .int 0, 0, 0), (63, .ireturn, 1, .null, 0, 0)]
def am_r58 : List (Nat × am_R) := [(0, .aload_n 0, 1, .null, 0, 0), (1, .invokespecial 1, 3, .null, 0, 9), (4, .aload_n 0, 1, .null, 0, 0), (5, .sipush 14000, 3, .int 14000, 0, 0), (8, .newarray .byte, 2, .null, 1, 0), (10, .putfield 7, 3, .null, 6, 1), (13, .aload_n 0, 1, .null, 0, 0), (14, .bipush 10, 2, .int 10, 0, 0), (16, .newarray .int, 2, .null, 0, 0), (18, .putfield 13, 3, .null, 6, 4), (21, .aload_n 0, 1, .null, 0, 0), (22, .sipush 2010, 3, .int 2010, 0, 0), (25, .newarray .byte, 2, .null, 1, 0), (27, .putfield 17, 3, .null, 6, 5), (30, .aload_n 0, 1, .null, 0, 0), (31, .iconst 2, 1, .int 2, 0, 0), (32, .newarray .int, 2, .null, 0, 0), (34, .putfield 20, 3, .null, 6, 6), (37, .aload_n 0, 1, .null, 0, 0), (38, .sipush 1000, 3, .int 1000, 0, 0), (41, .newarray .int, 2, .null, 0, 0), (43, .putfield 23, 3, .null, 6, 7), (46, .aload_n 0, 1, .null, 0, 0), (47, .sipush 1000, 3, .int 1000, 0, 0), (50, .newarray .int, 2, .null, 0, 0), (52, .putfield 26, 3, .null, 6, 8), (55, .aload_n 0, 1, .null, 0, 0), (56, .sipush 1000, 3, .int 1000, 0, 0), (59, .newarray .int, 2, .null, 0, 0), (61, .putfield 29, 3, .null, 6, 9), (64, .aload_n 0, 1, .null, 0, 0), (65, .sipush 1000, 3, .int 1000, 0, 0), (68, .newarray .int, 2, .null, 0, 0), (70, .putfield 32, 3, .null, 6, 11), (73, .aload_n 0, 1, .null, 0, 0), (74, .sipush 1000, 3, .int 1000, 0, 0), (77, .newarray .int, 2, .null, 0, 0), (79, .putfield 35, 3, .null, 6, 12), (82, .aload_n 0, 1, .null, 0, 0), (83, .sipush 3000, 3, .int 3000, 0, 0), (86, .newarray .int, 2, .null, 0, 0), (88, .putfield 38, 3, .null, 6, 14), (91, .aload_n 0, 1, .null, 0, 0), (92, .sipush 3000, 3, .int 3000, 0, 0), (95, .newarray .int, 2, .null, 0, 0), (97, .putfield 41, 3, .null, 6, 15), (100, .aload_n 0, 1, .null, 0, 0), (101, .sipush 3000, 3, .int 3000, 0, 0), (104, .newarray .int, 2, .null, 0, 0), (106, .putfield 44, 3, .null, 6, 16), (109, .aload_n 0, 1, .null, 0, 0), (110, .bipush 20, 2, .int 20, 0, 0), (112, .newarray .int, 2, .null, 0, 0), (114, .putfield 47, 3, .null, 6, 18), (117, .aload_n 0, 1, .null, 0, 0), (118, .bipush 20, 2, .int 20, 0, 0), (120, .newarray .int, 2, .null, 0, 0), (122, .putfield 50, 3, .null, 6, 19), (125, .aload_n 0, 1, .null, 0, 0), (126, .bipush 20, 2, .int 20, 0, 0), (128, .newarray .int, 2, .null, 0, 0), (130, .putfield 53, 3, .null, 6, 20), (133, .aload_n 0, 1, .null, 0, 0), (134, .bipush 20, 2, .int 20, 0, 0), (136, .newarray .int, 2, .null, 0, 0), (138, .putfield 56, 3, .null, 6, 21), (141, .aload_n 0, 1, .null, 0, 0), (142, .bipush 20, 2, .int 20, 0, 0), (144, .newarray .boolean, 2, .null, 2, 0), (146, .putfield 59, 3, .null, 6, 22), (149, .aload_n 0, 1, .null, 0, 0), (150, .bipush 20, 2, .int 20, 0, 0), (152, .newarray .int, 2, .null, 0, 0), (154, .putfield 63, 3, .null, 6, 23), (157, .iconst 0, 1, .int 0, 0, 0), (158, .istore_n 1, 1, .null, 0, 0), (159, .iload_n 1, 1, .null, 0, 0), (160, .iconst 4, 1, .int 4, 0, 0), (161, .if_icmp .ge 20, 3, .null, 181, 0), (164, .aload_n 0, 1, .null, 0, 0), (165, .getfield 7, 3, .null, 6, 1), (168, .sipush 2000, 3, .int 2000, 0, 0), (171, .iload_n 1, 1, .null, 0, 0), (172, .imul, 1, .null, 0, 0), (173, .iconst 5, 1, .int 5, 0, 0), (174, .bastore, 1, .null, 0, 0), (175, .iinc 1 1, 3, .int 1, 0, 0), (178, .goto (-19), 3, .null, 159, 0), (181, .return_, 1, .null, 0, 0)]
def am_r59 : List (Nat × am_R) := [(0, .aload_n 0, 1, .null, 0, 0), (1, .getfield 76, 3, .null, 6, 2), (4, .bipush 20, 2, .int 20, 0, 0), (6, .iadd, 1, .null, 0, 0), (7, .sipush 2000, 3, .int 2000, 0, 0), (10, .if_icmp .le 5, 3, .null, 15, 0), (13, .iconst (-1), 1, .int (-1), 0, 0), (14, .ireturn, 1, .null, 0, 0), (15, .aload_n 0, 1, .null, 0, 0), (16, .iload_n 1, 1, .null, 0, 0), (17, .invokevirtual 79, 3, .null, 60, 0), (20, .aload_n 0, 1, .null, 0, 0), (21, .iload_n 2, 1, .null, 0, 0), (22, .invokevirtual 79, 3, .null, 60, 0), (25, .aload_n 0, 1, .null, 0, 0), (26, .iload_n 3, 1, .null, 0, 0), (27, .invokevirtual 79, 3, .null, 60, 0), (30, .aload_n 0, 1, .null, 0, 0), (31, .iload 4, 2, .null, 0, 0), (33, .invokevirtual 79, 3, .null, 60, 0), (36, .aload_n 0, 1, .null, 0, 0), (37, .iload 5, 2, .null, 0, 0), (39, .invokevirtual 79, 3, .null, 60, 0), (42, .aload_n 0, 1, .null, 0, 0), (43, .getfield 76, 3, .null, 6, 2), (46, .ireturn, 1, .null, 0, 0)]
def am_r60 : List (Nat × am_R) := [(0, .bipush 24, 2, .int 24, 0, 0), (2, .istore_n 2, 1, .null, 0, 0), (3, .iload_n 2, 1, .null, 0, 0), (4, .ifCond .lt 36, 3, .null, 40, 0), (7, .aload_n 0, 1, .null, 0, 0), (8, .getfield 7, 3, .null, 6, 1), (11, .sipush 12000, 3, .int 12000, 0, 0), (14, .aload_n 0, 1, .null, 0, 0), (15, .getfield 76, 3, .null, 6, 2), (18, .iadd, 1, .null, 0, 0), (19, .iload_n 1, 1, .null, 0, 0), (20, .iload_n 2, 1, .null, 0, 0), (21, .ishr, 1, .null, 0, 0), (22, .i2b, 1, .null, 0, 0), (23, .bastore, 1, .null, 0, 0), (24, .aload_n 0, 1, .null, 0, 0), (25, .dup, 1, .null, 0, 0), (26, .getfield 76, 3, .null, 6, 2), (29, .iconst 1, 1, .int 1, 0, 0), (30, .iadd, 1, .null, 0, 0), (31, .putfield 76, 3, .null, 6, 2), (34, .iinc 2 (-8), 3, .int (-8), 0, 0), (37, .goto (-34), 3, .null, 3, 0), (40, .return_, 1, .null, 0, 0)]
def am_r61 : List (Nat × am_R) := [(0, .iload_n 1, 1, .null, 0, 0), (1, .invokestatic 128, 3, .null, 62, 0), (4, .ifCond .eq 15, 3, .null, 19, 0), (7, .iload_n 2, 1, .null, 0, 0), (8, .ifCond .lt 11, 3, .null, 19, 0), (11, .iload_n 2, 1, .null, 0, 0), (12, .aload_n 0, 1, .null, 0, 0), (13, .getfield 76, 3, .null, 6, 2), (16, .if_icmp .le 6, 3, .null, 22, 0), (19, .bipush (-2), 2, .int (-2), 0, 0), (21, .ireturn, 1, .null, 0, 0), (22, .aload_n 0, 1, .null, 0, 0), (23, .iconst 0, 1, .int 0, 0, 0), (24, .putfield 76, 3, .null, 6, 2), (27, .aload_n 0, 1, .null, 0, 0), (28, .sipush 12000, 3, .int 12000, 0, 0), (31, .iload_n 2, 1, .null, 0, 0), (32, .invokevirtual 132, 3, .null, 63, 0), (35, .istore_n 3, 1, .null, 0, 0), (36, .iload_n 3, 1, .null, 0, 0), (37, .ifCond .ge 5, 3, .null, 42, 0), (40, .iconst (-1), 1, .int (-1), 0, 0), (41, .ireturn, 1, .null, 0, 0), (42, .iconst 0, 1, .int 0, 0, 0), (43, .istore 4, 2, .null, 0, 0), (45, .iload 4, 2, .null, 0, 0), (47, .iload_n 2, 1, .null, 0, 0), (48, .if_icmp .ge 33, 3, .null, 81, 0), (51, .aload_n 0, 1, .null, 0, 0), (52, .getfield 7, 3, .null, 6, 1), (55, .sipush 2000, 3, .int 2000, 0, 0), (58, .iload_n 1, 1, .null, 0, 0), (59, .imul, 1, .null, 0, 0), (60, .iload 4, 2, .null, 0, 0), (62, .iadd, 1, .null, 0, 0), (63, .aload_n 0, 1, .null, 0, 0), (64, .getfield 7, 3, .null, 6, 1), (67, .sipush 12000, 3, .int 12000, 0, 0), (70, .iload 4, 2, .null, 0, 0), (72, .iadd, 1, .null, 0, 0), (73, .baload, 1, .null, 0, 0), (74, .bastore, 1, .null, 0, 0), (75, .iinc 4 1, 3, .int 1, 0, 0), (78, .goto (-33), 3, .null, 45, 0), (81, .iload_n 3, 1, .null, 0, 0), (82, .ireturn, 1, .null, 0, 0)]
def am_r62 : List (Nat × am_R) := [(0, .iload_n 0, 1, .null, 0, 0), (1, .ifCond .lt 12, 3, .null, 13, 0), (4, .iload_n 0, 1, .null, 0, 0), (5, .iconst 4, 1, .int 4, 0, 0), (6, .if_icmp .ge 7, 3, .null, 13, 0), (9, .iconst 1, 1, .int 1, 0, 0), (10, .goto 4, 3, .null, 14, 0), (13, .iconst 0, 1, .int 0, 0, 0), (14, .ireturn, 1, .null, 0, 0)]
def am_r63 : List (Nat × am_R) := [(0, .aload_n 0, 1, .null, 0, 0), (1, .iconst 0, 1, .int 0, 0, 0), (2, .putfield 104, 3, .null, 6, 17), (5, .iload_n 2, 1, .null, 0, 0), (6, .iconst 5, 1, .int 5, 0, 0), (7, .if_icmp .lt 24, 3, .null, 31, 0), (10, .aload_n 0, 1, .null, 0, 0), (11, .iload_n 1, 1, .null, 0, 0), (12, .invokevirtual 91, 3, .null, 64, 0), (15, .iload_n 2, 1, .null, 0, 0), (16, .if_icmp .ne 15, 3, .null, 31, 0), (19, .aload_n 0, 1, .null, 0, 0), (20, .iload_n 1, 1, .null, 0, 0), (21, .iload_n 1, 1, .null, 0, 0), (22, .iload_n 2, 1, .null, 0, 0), (23, .iadd, 1, .null, 0, 0), (24, .iconst 0, 1, .int 0, 0, 0), (25, .invokevirtual 117, 3, .null, 66, 0), (28, .ifCond .ne 5, 3, .null, 33, 0), (31, .iconst (-1), 1, .int (-1), 0, 0), (32, .ireturn, 1, .null, 0, 0), (33, .iconst 0, 1, .int 0, 0, 0), (34, .istore_n 3, 1, .null, 0, 0), (35, .aload_n 0, 1, .null, 0, 0), (36, .getfield 104, 3, .null, 6, 17), (39, .ifCond .le 61, 3, .null, 100, 0), (42, .aload_n 0, 1, .null, 0, 0), (43, .getfield 104, 3, .null, 6, 17), (46, .iconst 1, 1, .int 1, 0, 0), (47, .isub, 1, .null, 0, 0), (48, .istore 4, 2, .null, 0, 0), (50, .aload_n 0, 1, .null, 0, 0), (51, .getfield 47, 3, .null, 6, 18), (54, .iload 4, 2, .null, 0, 0), (56, .iaload, 1, .null, 0, 0), (57, .aload_n 0, 1, .null, 0, 0), (58, .getfield 50, 3, .null, 6, 19), (61, .iload 4, 2, .null, 0, 0), (63, .iaload, 1, .null, 0, 0), (64, .if_icmp .ne 24, 3, .null, 88, 0), (67, .aload_n 0, 1, .null, 0, 0), (68, .getfield 63, 3, .null, 6, 23), (71, .iload 4, 2, .null, 0, 0), (73, .iaload, 1, .null, 0, 0), (74, .istore_n 3, 1, .null, 0, 0), (75, .aload_n 0, 1, .null, 0, 0), (76, .dup, 1, .null, 0, 0), (77, .getfield 104, 3, .null, 6, 17), (80, .iconst 1, 1, .int 1, 0, 0), (81, .isub, 1, .null, 0, 0), (82, .putfield 104, 3, .null, 6, 17), (85, .goto 12, 3, .null, 97, 0), (88, .aload_n 0, 1, .null, 0, 0), (89, .invokevirtual 124, 3, .null, 67, 0), (92, .ifCond .ne 5, 3, .null, 97, 0), (95, .iconst (-1), 1, .int (-1), 0, 0), (96, .ireturn, 1, .null, 0, 0), (97, .goto (-62), 3, .null, 35, 0), (100, .iload_n 3, 1, .null, 0, 0), (101, .ireturn, 1, .null, 0, 0)]
def am_r64 : List (Nat × am_R) := [(0, .aload_n 0, 1, .null, 0, 0), (1, .iload_n 1, 1, .null, 0, 0), (2, .invokevirtual 70, 3, .null, 65, 0), (5, .sipush 256, 3, .int 256, 0, 0), (8, .aload_n 0, 1, .null, 0, 0), (9, .iload_n 1, 1, .null, 0, 0), (10, .iconst 1, 1, .int 1, 0, 0), (11, .iadd, 1, .null, 0, 0), (12, .invokevirtual 70, 3, .null, 65, 0), (15, .imul, 1, .null, 0, 0), (16, .iadd, 1, .null, 0, 0), (17, .ldc 74, 2, .int 65536, 0, 0), (19, .aload_n 0, 1, .null, 0, 0), (20, .iload_n 1, 1, .null, 0, 0), (21, .iconst 2, 1, .int 2, 0, 0), (22, .iadd, 1, .null, 0, 0), (23, .invokevirtual 70, 3, .null, 65, 0), (26, .imul, 1, .null, 0, 0), (27, .iadd, 1, .null, 0, 0), (28, .ldc 75, 2, .int 16777216, 0, 0), (30, .aload_n 0, 1, .null, 0, 0), (31, .iload_n 1, 1, .null, 0, 0), (32, .iconst 3, 1, .int 3, 0, 0), (33, .iadd, 1, .null, 0, 0), (34, .invokevirtual 70, 3, .null, 65, 0), (37, .imul, 1, .null, 0, 0), (38, .iadd, 1, .null, 0, 0), (39, .ireturn, 1, .null, 0, 0)]
def am_r65 : List (Nat × am_R) := [(0, .aload_n 0, 1, .null, 0, 0), (1, .getfield 7, 3, .null, 6, 1), (4, .iload_n 1, 1, .null, 0, 0), (5, .baload, 1, .null, 0, 0), (6, .sipush 255, 3, .int 255, 0, 0), (9, .iand, 1, .null, 0, 0), (10, .ireturn, 1, .null, 0, 0)]
def am_r66 : List (Nat × am_R) := [(0, .iload_n 2, 1, .null, 0, 0), (1, .iload_n 1, 1, .null, 0, 0), (2, .isub, 1, .null, 0, 0), (3, .iconst 4, 1, .int 4, 0, 0), (4, .if_icmp .lt 12, 3, .null, 16, 0), (7, .aload_n 0, 1, .null, 0, 0), (8, .getfield 104, 3, .null, 6, 17), (11, .bipush 16, 2, .int 16, 0, 0), (13, .if_icmp .ne 5, 3, .null, 18, 0), (16, .iconst 0, 1, .int 0, 0, 0), (17, .ireturn, 1, .null, 0, 0), (18, .aload_n 0, 1, .null, 0, 0), (19, .iload_n 1, 1, .null, 0, 0), (20, .invokevirtual 91, 3, .null, 64, 0), (23, .istore 4, 2, .null, 0, 0), (25, .iload 4, 2, .null, 0, 0), (27, .iconst 5, 1, .int 5, 0, 0), (28, .if_icmp .lt 25, 3, .null, 53, 0), (31, .iload 4, 2, .null, 0, 0), (33, .iload_n 2, 1, .null, 0, 0), (34, .iload_n 1, 1, .null, 0, 0), (35, .isub, 1, .null, 0, 0), (36, .if_icmp .gt 17, 3, .null, 53, 0), (39, .aload_n 0, 1, .null, 0, 0), (40, .getfield 7, 3, .null, 6, 1), (43, .iload_n 1, 1, .null, 0, 0), (44, .iload 4, 2, .null, 0, 0), (46, .iadd, 1, .null, 0, 0), (47, .iconst 1, 1, .int 1, 0, 0), (48, .isub, 1, .null, 0, 0), (49, .baload, 1, .null, 0, 0), (50, .ifCond .eq 5, 3, .null, 55, 0), (53, .iconst 0, 1, .int 0, 0, 0), (54, .ireturn, 1, .null, 0, 0), (55, .aload_n 0, 1, .null, 0, 0), (56, .getfield 47, 3, .null, 6, 18), (59, .aload_n 0, 1, .null, 0, 0), (60, .getfield 104, 3, .null, 6, 17), (63, .iload_n 1, 1, .null, 0, 0), (64, .iconst 4, 1, .int 4, 0, 0), (65, .iadd, 1, .null, 0, 0), (66, .iastore, 1, .null, 0, 0), (67, .aload_n 0, 1, .null, 0, 0), (68, .getfield 53, 3, .null, 6, 20), (71, .aload_n 0, 1, .null, 0, 0), (72, .getfield 104, 3, .null, 6, 17), (75, .iload_n 1, 1, .null, 0, 0), (76, .iconst 4, 1, .int 4, 0, 0), (77, .iadd, 1, .null, 0, 0), (78, .iastore, 1, .null, 0, 0), (79, .aload_n 0, 1, .null, 0, 0), (80, .getfield 50, 3, .null, 6, 19), (83, .aload_n 0, 1, .null, 0, 0), (84, .getfield 104, 3, .null, 6, 17), (87, .iload_n 1, 1, .null, 0, 0), (88, .iload 4, 2, .null, 0, 0), (90, .iadd, 1, .null, 0, 0), (91, .iconst 1, 1, .int 1, 0, 0), (92, .isub, 1, .null, 0, 0), (93, .iastore, 1, .null, 0, 0), (94, .aload_n 0, 1, .null, 0, 0), (95, .getfield 59, 3, .null, 6, 22), (98, .aload_n 0, 1, .null, 0, 0), (99, .getfield 104, 3, .null, 6, 17), (102, .iload_n 3, 1, .null, 0, 0), (103, .bastore, 1, .null, 0, 0), (104, .aload_n 0, 1, .null, 0, 0), (105, .getfield 63, 3, .null, 6, 23), (108, .aload_n 0, 1, .null, 0, 0), (109, .getfield 104, 3, .null, 6, 17), (112, .iconst 0, 1, .int 0, 0, 0), (113, .iastore, 1, .null, 0, 0), (114, .aload_n 0, 1, .null, 0, 0), (115, .dup, 1, .null, 0, 0), (116, .getfield 104, 3, .null, 6, 17), (119, .iconst 1, 1, .int 1, 0, 0), (120, .iadd, 1, .null, 0, 0), (121, .putfield 104, 3, .null, 6, 17), (124, .iconst 1, 1, .int 1, 0, 0), (125, .ireturn, 1, .null, 0, 0)]
def am_r67 : List (Nat × am_R) := [(0, .aload_n 0, 1, .null, 0, 0), (1, .getfield 104, 3, .null, 6, 17), (4, .iconst 1, 1, .int 1, 0, 0), (5, .isub, 1, .null, 0, 0), (6, .istore_n 1, 1, .null, 0, 0), (7, .aload_n 0, 1, .null, 0, 0), (8, .getfield 47, 3, .null, 6, 18), (11, .iload_n 1, 1, .null, 0, 0), (12, .iaload, 1, .null, 0, 0), (13, .istore_n 2, 1, .null, 0, 0), (14, .aload_n 0, 1, .null, 0, 0), (15, .getfield 50, 3, .null, 6, 19), (18, .iload_n 1, 1, .null, 0, 0), (19, .iaload, 1, .null, 0, 0), (20, .istore_n 3, 1, .null, 0, 0), (21, .aload_n 0, 1, .null, 0, 0), (22, .iload_n 2, 1, .null, 0, 0), (23, .invokevirtual 70, 3, .null, 65, 0), (26, .istore 4, 2, .null, 0, 0), (28, .aload_n 0, 1, .null, 0, 0), (29, .iload_n 2, 1, .null, 0, 0), (30, .iconst 1, 1, .int 1, 0, 0), (31, .iadd, 1, .null, 0, 0), (32, .iload_n 3, 1, .null, 0, 0), (33, .invokevirtual 98, 3, .null, 68, 0), (36, .istore 5, 2, .null, 0, 0), (38, .iload 5, 2, .null, 0, 0), (40, .iload_n 3, 1, .null, 0, 0), (41, .if_icmp .ge 15, 3, .null, 56, 0), (44, .aload_n 0, 1, .null, 0, 0), (45, .iload_n 2, 1, .null, 0, 0), (46, .iconst 1, 1, .int 1, 0, 0), (47, .iadd, 1, .null, 0, 0), (48, .iload 5, 2, .null, 0, 0), (50, .invokevirtual 107, 3, .null, 69, 0), (53, .ifCond .ne 5, 3, .null, 58, 0), (56, .iconst 0, 1, .int 0, 0, 0), (57, .ireturn, 1, .null, 0, 0), (58, .aload_n 0, 1, .null, 0, 0), (59, .getfield 59, 3, .null, 6, 22), (62, .iload_n 1, 1, .null, 0, 0), (63, .baload, 1, .null, 0, 0), (64, .ifCond .eq 21, 3, .null, 85, 0), (67, .aload_n 0, 1, .null, 0, 0), (68, .iload_n 2, 1, .null, 0, 0), (69, .iconst 1, 1, .int 1, 0, 0), (70, .iadd, 1, .null, 0, 0), (71, .iload 5, 2, .null, 0, 0), (73, .aload_n 0, 1, .null, 0, 0), (74, .getfield 63, 3, .null, 6, 23), (77, .iload_n 1, 1, .null, 0, 0), (78, .iaload, 1, .null, 0, 0), (79, .invokevirtual 110, 3, .null, 71, 0), (82, .goto 25, 3, .null, 107, 0), (85, .aload_n 0, 1, .null, 0, 0), (86, .iload_n 2, 1, .null, 0, 0), (87, .iconst 1, 1, .int 1, 0, 0), (88, .iadd, 1, .null, 0, 0), (89, .aload_n 0, 1, .null, 0, 0), (90, .getfield 53, 3, .null, 6, 20), (93, .iload_n 1, 1, .null, 0, 0), (94, .iaload, 1, .null, 0, 0), (95, .iload_n 2, 1, .null, 0, 0), (96, .invokevirtual 114, 3, .null, 72, 0), (99, .ifCond .ne 7, 3, .null, 106, 0), (102, .iconst 1, 1, .int 1, 0, 0), (103, .goto 4, 3, .null, 107, 0), (106, .iconst 0, 1, .int 0, 0, 0), (107, .istore 6, 2, .null, 0, 0), (109, .iload 6, 2, .null, 0, 0), (111, .ifCond .ne 5, 3, .null, 116, 0), (114, .iconst 0, 1, .int 0, 0, 0), (115, .ireturn, 1, .null, 0, 0), (116, .aload_n 0, 1, .null, 0, 0), (117, .getfield 63, 3, .null, 6, 23), (120, .iload_n 1, 1, .null, 0, 0), (121, .dup2, 1, .null, 0, 0), (122, .iaload, 1, .null, 0, 0), (123, .iconst 1, 1, .int 1, 0, 0), (124, .iadd, 1, .null, 0, 0), (125, .iastore, 1, .null, 0, 0), (126, .iload 5, 2, .null, 0, 0), (128, .iconst 1, 1, .int 1, 0, 0), (129, .iadd, 1, .null, 0, 0), (130, .istore 7, 2, .null, 0, 0), (132, .iload 4, 2, .null, 0, 0), (134, .iconst 3, 1, .int 3, 0, 0), (135, .if_icmp .eq 9, 3, .null, 144, 0), (138, .iload 4, 2, .null, 0, 0), (140, .iconst 4, 1, .int 4, 0, 0), (141, .if_icmp .ne 42, 3, .null, 183, 0), (144, .aload_n 0, 1, .null, 0, 0), (145, .iload 7, 2, .null, 0, 0), (147, .iload_n 3, 1, .null, 0, 0), (148, .iload 4, 2, .null, 0, 0), (150, .iconst 4, 1, .int 4, 0, 0), (151, .if_icmp .ne 7, 3, .null, 158, 0), (154, .iconst 1, 1, .int 1, 0, 0), (155, .goto 4, 3, .null, 159, 0), (158, .iconst 0, 1, .int 0, 0, 0), (159, .invokevirtual 117, 3, .null, 66, 0), (162, .ifCond .ne 5, 3, .null, 167, 0), (165, .iconst 0, 1, .int 0, 0, 0), (166, .ireturn, 1, .null, 0, 0), (167, .aload_n 0, 1, .null, 0, 0), (168, .getfield 47, 3, .null, 6, 18), (171, .iload_n 1, 1, .null, 0, 0), (172, .aload_n 0, 1, .null, 0, 0), (173, .iload 4, 2, .null, 0, 0), (175, .iload 7, 2, .null, 0, 0), (177, .invokevirtual 101, 3, .null, 74, 0), (180, .iastore, 1, .null, 0, 0), (181, .iconst 1, 1, .int 1, 0, 0), (182, .ireturn, 1, .null, 0, 0), (183, .iload 4, 2, .null, 0, 0), (185, .bipush 16, 2, .int 16, 0, 0), (187, .if_icmp .ne 19, 3, .null, 206, 0), (190, .iload_n 3, 1, .null, 0, 0), (191, .iload 7, 2, .null, 0, 0), (193, .isub, 1, .null, 0, 0), (194, .iconst 4, 1, .int 4, 0, 0), (195, .if_icmp .lt 7, 3, .null, 202, 0), (198, .iconst 1, 1, .int 1, 0, 0), (199, .goto 90, 3, .null, 289, 0), (202, .iconst 0, 1, .int 0, 0, 0), (203, .goto 86, 3, .null, 289, 0), (206, .iload 4, 2, .null, 0, 0), (208, .bipush 18, 2, .int 18, 0, 0), (210, .if_icmp .ne 20, 3, .null, 230, 0), (213, .iload_n 3, 1, .null, 0, 0), (214, .iload 7, 2, .null, 0, 0), (216, .isub, 1, .null, 0, 0), (217, .bipush 8, 2, .int 8, 0, 0), (219, .if_icmp .lt 7, 3, .null, 226, 0), (222, .iconst 1, 1, .int 1, 0, 0), (223, .goto 66, 3, .null, 289, 0), (226, .iconst 0, 1, .int 0, 0, 0), (227, .goto 62, 3, .null, 289, 0), (230, .iload 4, 2, .null, 0, 0), (232, .bipush 8, 2, .int 8, 0, 0), (234, .if_icmp .ne 27, 3, .null, 261, 0), (237, .iload_n 3, 1, .null, 0, 0), (238, .iload 7, 2, .null, 0, 0), (240, .if_icmp .le 17, 3, .null, 257, 0), (243, .aload_n 0, 1, .null, 0, 0), (244, .iload 7, 2, .null, 0, 0), (246, .invokevirtual 70, 3, .null, 65, 0), (249, .iconst 2, 1, .int 2, 0, 0), (250, .if_icmp .ge 7, 3, .null, 257, 0), (253, .iconst 1, 1, .int 1, 0, 0), (254, .goto 35, 3, .null, 289, 0), (257, .iconst 0, 1, .int 0, 0, 0), (258, .goto 31, 3, .null, 289, 0), (261, .iload 4, 2, .null, 0, 0), (263, .bipush 10, 2, .int 10, 0, 0), (265, .if_icmp .eq 19, 3, .null, 284, 0), (268, .iload 4, 2, .null, 0, 0), (270, .iconst 2, 1, .int 2, 0, 0), (271, .if_icmp .ne 17, 3, .null, 288, 0), (274, .aload_n 0, 1, .null, 0, 0), (275, .iload 7, 2, .null, 0, 0), (277, .iload_n 3, 1, .null, 0, 0), (278, .invokevirtual 121, 3, .null, 75, 0), (281, .ifCond .eq 7, 3, .null, 288, 0), (284, .iconst 1, 1, .int 1, 0, 0), (285, .goto 4, 3, .null, 289, 0), (288, .iconst 0, 1, .int 0, 0, 0), (289, .istore 8, 2, .null, 0, 0), (291, .iload 8, 2, .null, 0, 0), (293, .ifCond .eq 17, 3, .null, 310, 0), (296, .aload_n 0, 1, .null, 0, 0), (297, .getfield 47, 3, .null, 6, 18), (300, .iload_n 1, 1, .null, 0, 0), (301, .aload_n 0, 1, .null, 0, 0), (302, .iload 4, 2, .null, 0, 0), (304, .iload 7, 2, .null, 0, 0), (306, .invokevirtual 101, 3, .null, 74, 0), (309, .iastore, 1, .null, 0, 0), (310, .iload 8, 2, .null, 0, 0), (312, .ireturn, 1, .null, 0, 0)]
def am_r68 : List (Nat × am_R) := [(0, .iload_n 1, 1, .null, 0, 0), (1, .istore_n 3, 1, .null, 0, 0), (2, .iload_n 3, 1, .null, 0, 0), (3, .iload_n 2, 1, .null, 0, 0), (4, .if_icmp .ge 18, 3, .null, 22, 0), (7, .aload_n 0, 1, .null, 0, 0), (8, .getfield 7, 3, .null, 6, 1), (11, .iload_n 3, 1, .null, 0, 0), (12, .baload, 1, .null, 0, 0), (13, .ifCond .eq 9, 3, .null, 22, 0), (16, .iinc 3 1, 3, .int 1, 0, 0), (19, .goto (-17), 3, .null, 2, 0), (22, .iload_n 3, 1, .null, 0, 0), (23, .ireturn, 1, .null, 0, 0)]
def am_r69 : List (Nat × am_R) := [(0, .iload_n 1, 1, .null, 0, 0), (1, .istore_n 3, 1, .null, 0, 0), (2, .iload_n 3, 1, .null, 0, 0), (3, .iload_n 2, 1, .null, 0, 0), (4, .if_icmp .ge 26, 3, .null, 30, 0), (7, .aload_n 0, 1, .null, 0, 0), (8, .iload_n 3, 1, .null, 0, 0), (9, .iload_n 2, 1, .null, 0, 0), (10, .invokevirtual 87, 3, .null, 70, 0), (13, .istore 4, 2, .null, 0, 0), (15, .iload 4, 2, .null, 0, 0), (17, .ifCond .ne 5, 3, .null, 22, 0), (20, .iconst 0, 1, .int 0, 0, 0), (21, .ireturn, 1, .null, 0, 0), (22, .iload_n 3, 1, .null, 0, 0), (23, .iload 4, 2, .null, 0, 0), (25, .iadd, 1, .null, 0, 0), (26, .istore_n 3, 1, .null, 0, 0), (27, .goto (-25), 3, .null, 2, 0), (30, .iconst 1, 1, .int 1, 0, 0), (31, .ireturn, 1, .null, 0, 0)]
def am_r70 : List (Nat × am_R) := [(0, .aload_n 0, 1, .null, 0, 0), (1, .iload_n 1, 1, .null, 0, 0), (2, .invokevirtual 70, 3, .null, 65, 0), (5, .istore_n 3, 1, .null, 0, 0), (6, .iload_n 3, 1, .null, 0, 0), (7, .sipush 128, 3, .int 128, 0, 0), (10, .if_icmp .ge 5, 3, .null, 15, 0), (13, .iconst 1, 1, .int 1, 0, 0), (14, .ireturn, 1, .null, 0, 0), (15, .iload_n 3, 1, .null, 0, 0), (16, .sipush 192, 3, .int 192, 0, 0), (19, .if_icmp .ge 7, 3, .null, 26, 0), (22, .iconst 0, 1, .int 0, 0, 0), (23, .goto 37, 3, .null, 60, 0), (26, .iload_n 3, 1, .null, 0, 0), (27, .sipush 224, 3, .int 224, 0, 0), (30, .if_icmp .ge 7, 3, .null, 37, 0), (33, .iconst 2, 1, .int 2, 0, 0), (34, .goto 26, 3, .null, 60, 0), (37, .iload_n 3, 1, .null, 0, 0), (38, .sipush 240, 3, .int 240, 0, 0), (41, .if_icmp .ge 7, 3, .null, 48, 0), (44, .iconst 3, 1, .int 3, 0, 0), (45, .goto 15, 3, .null, 60, 0), (48, .iload_n 3, 1, .null, 0, 0), (49, .sipush 248, 3, .int 248, 0, 0), (52, .if_icmp .ge 7, 3, .null, 59, 0), (55, .iconst 4, 1, .int 4, 0, 0), (56, .goto 4, 3, .null, 60, 0), (59, .iconst 0, 1, .int 0, 0, 0), (60, .istore 4, 2, .null, 0, 0), (62, .iload 4, 2, .null, 0, 0), (64, .ifCond .eq 11, 3, .null, 75, 0), (67, .iload_n 1, 1, .null, 0, 0), (68, .iload 4, 2, .null, 0, 0), (70, .iadd, 1, .null, 0, 0), (71, .iload_n 2, 1, .null, 0, 0), (72, .if_icmp .le 5, 3, .null, 77, 0), (75, .iconst 0, 1, .int 0, 0, 0), (76, .ireturn, 1, .null, 0, 0), (77, .iload 4, 2, .null, 0, 0), (79, .iconst 2, 1, .int 2, 0, 0), (80, .if_icmp .ne 11, 3, .null, 91, 0), (83, .iload_n 3, 1, .null, 0, 0), (84, .sipush 192, 3, .int 192, 0, 0), (87, .isub, 1, .null, 0, 0), (88, .goto 22, 3, .null, 110, 0), (91, .iload 4, 2, .null, 0, 0), (93, .iconst 3, 1, .int 3, 0, 0), (94, .if_icmp .ne 11, 3, .null, 105, 0), (97, .iload_n 3, 1, .null, 0, 0), (98, .sipush 224, 3, .int 224, 0, 0), (101, .isub, 1, .null, 0, 0), (102, .goto 8, 3, .null, 110, 0), (105, .iload_n 3, 1, .null, 0, 0), (106, .sipush 240, 3, .int 240, 0, 0), (109, .isub, 1, .null, 0, 0), (110, .istore 5, 2, .null, 0, 0), (112, .iconst 1, 1, .int 1, 0, 0), (113, .istore 6, 2, .null, 0, 0), (115, .iload 6, 2, .null, 0, 0), (117, .iload 4, 2, .null, 0, 0), (119, .if_icmp .ge 51, 3, .null, 170, 0), (122, .aload_n 0, 1, .null, 0, 0), (123, .iload_n 1, 1, .null, 0, 0), (124, .iload 6, 2, .null, 0, 0), (126, .iadd, 1, .null, 0, 0), (127, .invokevirtual 70, 3, .null, 65, 0), (130, .istore 7, 2, .null, 0, 0), (132, .iload 7, 2, .null, 0, 0), (134, .sipush 128, 3, .int 128, 0, 0), (137, .if_icmp .lt 11, 3, .null, 148, 0), (140, .iload 7, 2, .null, 0, 0), (142, .sipush 191, 3, .int 191, 0, 0), (145, .if_icmp .le 5, 3, .null, 150, 0), (148, .iconst 0, 1, .int 0, 0, 0), (149, .ireturn, 1, .null, 0, 0), (150, .bipush 64, 2, .int 64, 0, 0), (152, .iload 5, 2, .null, 0, 0), (154, .imul, 1, .null, 0, 0), (155, .iload 7, 2, .null, 0, 0), (157, .iadd, 1, .null, 0, 0), (158, .sipush 128, 3, .int 128, 0, 0), (161, .isub, 1, .null, 0, 0), (162, .istore 5, 2, .null, 0, 0), (164, .iinc 6 1, 3, .int 1, 0, 0), (167, .goto (-52), 3, .null, 115, 0), (170, .iload 4, 2, .null, 0, 0), (172, .iconst 2, 1, .int 2, 0, 0), (173, .if_icmp .ne 18, 3, .null, 191, 0), (176, .iload 5, 2, .null, 0, 0), (178, .bipush 127, 2, .int 127, 0, 0), (180, .if_icmp .le 7, 3, .null, 187, 0), (183, .iconst 1, 1, .int 1, 0, 0), (184, .goto 41, 3, .null, 225, 0), (187, .iconst 0, 1, .int 0, 0, 0), (188, .goto 37, 3, .null, 225, 0), (191, .iload 4, 2, .null, 0, 0), (193, .iconst 3, 1, .int 3, 0, 0), (194, .if_icmp .ne 19, 3, .null, 213, 0), (197, .iload 5, 2, .null, 0, 0), (199, .sipush 2047, 3, .int 2047, 0, 0), (202, .if_icmp .le 7, 3, .null, 209, 0), (205, .iconst 1, 1, .int 1, 0, 0), (206, .goto 19, 3, .null, 225, 0), (209, .iconst 0, 1, .int 0, 0, 0), (210, .goto 15, 3, .null, 225, 0), (213, .iload 5, 2, .null, 0, 0), (215, .ldc 83, 2, .int 65535, 0, 0), (217, .if_icmp .le 7, 3, .null, 224, 0), (220, .iconst 1, 1, .int 1, 0, 0), (221, .goto 4, 3, .null, 225, 0), (224, .iconst 0, 1, .int 0, 0, 0), (225, .istore 6, 2, .null, 0, 0), (227, .iload 6, 2, .null, 0, 0), (229, .ifCond .eq 29, 3, .null, 258, 0), (232, .iload 5, 2, .null, 0, 0), (234, .ldc 84, 2, .int 1114112, 0, 0), (236, .if_icmp .ge 22, 3, .null, 258, 0), (239, .iload 5, 2, .null, 0, 0), (241, .ldc 85, 2, .int 55296, 0, 0), (243, .if_icmp .lt 10, 3, .null, 253, 0), (246, .iload 5, 2, .null, 0, 0), (248, .ldc 86, 2, .int 57343, 0, 0), (250, .if_icmp .le 8, 3, .null, 258, 0), (253, .iload 4, 2, .null, 0, 0), (255, .goto 4, 3, .null, 259, 0), (258, .iconst 0, 1, .int 0, 0, 0), (259, .ireturn, 1, .null, 0, 0)]
def am_r71 : List (Nat × am_R) := [(0, .iconst 0, 1, .int 0, 0, 0), (1, .istore 4, 2, .null, 0, 0), (3, .iload_n 1, 1, .null, 0, 0), (4, .istore 5, 2, .null, 0, 0), (6, .iload 5, 2, .null, 0, 0), (8, .iload_n 2, 1, .null, 0, 0), (9, .if_icmp .ge 58, 3, .null, 67, 0), (12, .aload_n 0, 1, .null, 0, 0), (13, .iload 5, 2, .null, 0, 0), (15, .invokevirtual 70, 3, .null, 65, 0), (18, .bipush 48, 2, .int 48, 0, 0), (20, .if_icmp .lt 22, 3, .null, 42, 0), (23, .aload_n 0, 1, .null, 0, 0), (24, .iload 5, 2, .null, 0, 0), (26, .invokevirtual 70, 3, .null, 65, 0), (29, .bipush 57, 2, .int 57, 0, 0), (31, .if_icmp .gt 11, 3, .null, 42, 0), (34, .iload 4, 2, .null, 0, 0), (36, .sipush 1000, 3, .int 1000, 0, 0), (39, .if_icmp .le 5, 3, .null, 44, 0), (42, .iconst 0, 1, .int 0, 0, 0), (43, .ireturn, 1, .null, 0, 0), (44, .bipush 10, 2, .int 10, 0, 0), (46, .iload 4, 2, .null, 0, 0), (48, .imul, 1, .null, 0, 0), (49, .aload_n 0, 1, .null, 0, 0), (50, .iload 5, 2, .null, 0, 0), (52, .invokevirtual 70, 3, .null, 65, 0), (55, .iadd, 1, .null, 0, 0), (56, .bipush 48, 2, .int 48, 0, 0), (58, .isub, 1, .null, 0, 0), (59, .istore 4, 2, .null, 0, 0), (61, .iinc 5 1, 3, .int 1, 0, 0), (64, .goto (-58), 3, .null, 6, 0), (67, .iload_n 2, 1, .null, 0, 0), (68, .iload_n 1, 1, .null, 0, 0), (69, .if_icmp .le 30, 3, .null, 99, 0), (72, .iload 4, 2, .null, 0, 0), (74, .iload_n 3, 1, .null, 0, 0), (75, .if_icmp .ne 24, 3, .null, 99, 0), (78, .iload_n 2, 1, .null, 0, 0), (79, .iload_n 1, 1, .null, 0, 0), (80, .isub, 1, .null, 0, 0), (81, .iconst 1, 1, .int 1, 0, 0), (82, .if_icmp .eq 13, 3, .null, 95, 0), (85, .aload_n 0, 1, .null, 0, 0), (86, .iload_n 1, 1, .null, 0, 0), (87, .invokevirtual 70, 3, .null, 65, 0), (90, .bipush 48, 2, .int 48, 0, 0), (92, .if_icmp .eq 7, 3, .null, 99, 0), (95, .iconst 1, 1, .int 1, 0, 0), (96, .goto 4, 3, .null, 100, 0), (99, .iconst 0, 1, .int 0, 0, 0), (100, .ireturn, 1, .null, 0, 0)]
def am_r72 : List (Nat × am_R) := [(0, .iload_n 2, 1, .null, 0, 0), (1, .istore 4, 2, .null, 0, 0), (3, .iload 4, 2, .null, 0, 0), (5, .iload_n 3, 1, .null, 0, 0), (6, .if_icmp .ge 43, 3, .null, 49, 0), (9, .aload_n 0, 1, .null, 0, 0), (10, .iload_n 1, 1, .null, 0, 0), (11, .iload 4, 2, .null, 0, 0), (13, .iconst 1, 1, .int 1, 0, 0), (14, .iadd, 1, .null, 0, 0), (15, .invokevirtual 94, 3, .null, 73, 0), (18, .ifCond .eq 5, 3, .null, 23, 0), (21, .iconst 1, 1, .int 1, 0, 0), (22, .ireturn, 1, .null, 0, 0), (23, .aload_n 0, 1, .null, 0, 0), (24, .aload_n 0, 1, .null, 0, 0), (25, .iload 4, 2, .null, 0, 0), (27, .invokevirtual 70, 3, .null, 65, 0), (30, .aload_n 0, 1, .null, 0, 0), (31, .iload 4, 2, .null, 0, 0), (33, .iconst 1, 1, .int 1, 0, 0), (34, .iadd, 1, .null, 0, 0), (35, .iload_n 3, 1, .null, 0, 0), (36, .invokevirtual 98, 3, .null, 68, 0), (39, .iconst 1, 1, .int 1, 0, 0), (40, .iadd, 1, .null, 0, 0), (41, .invokevirtual 101, 3, .null, 74, 0), (44, .istore 4, 2, .null, 0, 0), (46, .goto (-43), 3, .null, 3, 0), (49, .iconst 0, 1, .int 0, 0, 0), (50, .ireturn, 1, .null, 0, 0)]
def am_r73 : List (Nat × am_R) := [(0, .iconst 0, 1, .int 0, 0, 0), (1, .istore_n 3, 1, .null, 0, 0), (2, .aload_n 0, 1, .null, 0, 0), (3, .getfield 7, 3, .null, 6, 1), (6, .iload_n 1, 1, .null, 0, 0), (7, .iload_n 3, 1, .null, 0, 0), (8, .iadd, 1, .null, 0, 0), (9, .baload, 1, .null, 0, 0), (10, .aload_n 0, 1, .null, 0, 0), (11, .getfield 7, 3, .null, 6, 1), (14, .iload_n 2, 1, .null, 0, 0), (15, .iload_n 3, 1, .null, 0, 0), (16, .iadd, 1, .null, 0, 0), (17, .baload, 1, .null, 0, 0), (18, .if_icmp .ne 20, 3, .null, 38, 0), (21, .aload_n 0, 1, .null, 0, 0), (22, .getfield 7, 3, .null, 6, 1), (25, .iload_n 1, 1, .null, 0, 0), (26, .iload_n 3, 1, .null, 0, 0), (27, .iadd, 1, .null, 0, 0), (28, .baload, 1, .null, 0, 0), (29, .ifCond .eq 9, 3, .null, 38, 0), (32, .iinc 3 1, 3, .int 1, 0, 0), (35, .goto (-33), 3, .null, 2, 0), (38, .aload_n 0, 1, .null, 0, 0), (39, .getfield 7, 3, .null, 6, 1), (42, .iload_n 1, 1, .null, 0, 0), (43, .iload_n 3, 1, .null, 0, 0), (44, .iadd, 1, .null, 0, 0), (45, .baload, 1, .null, 0, 0), (46, .aload_n 0, 1, .null, 0, 0), (47, .getfield 7, 3, .null, 6, 1), (50, .iload_n 2, 1, .null, 0, 0), (51, .iload_n 3, 1, .null, 0, 0), (52, .iadd, 1, .null, 0, 0), (53, .baload, 1, .null, 0, 0), (54, .if_icmp .ne 7, 3, .null, 61, 0), (57, .iconst 1, 1, .int 1, 0, 0), (58, .goto 4, 3, .null, 62, 0), (61, .iconst 0, 1, .int 0, 0, 0), (62, .ireturn, 1, .null, 0, 0)]
def am_r74 : List (Nat × am_R) := [(0, .iload_n 1, 1, .null, 0, 0), (1, .bipush 16, 2, .int 16, 0, 0), (3, .if_icmp .ne 9, 3, .null, 12, 0), (6, .iload_n 2, 1, .null, 0, 0), (7, .iconst 4, 1, .int 4, 0, 0), (8, .iadd, 1, .null, 0, 0), (9, .goto 66, 3, .null, 75, 0), (12, .iload_n 1, 1, .null, 0, 0), (13, .bipush 18, 2, .int 18, 0, 0), (15, .if_icmp .ne 10, 3, .null, 25, 0), (18, .iload_n 2, 1, .null, 0, 0), (19, .bipush 8, 2, .int 8, 0, 0), (21, .iadd, 1, .null, 0, 0), (22, .goto 53, 3, .null, 75, 0), (25, .iload_n 1, 1, .null, 0, 0), (26, .bipush 8, 2, .int 8, 0, 0), (28, .if_icmp .ne 9, 3, .null, 37, 0), (31, .iload_n 2, 1, .null, 0, 0), (32, .iconst 1, 1, .int 1, 0, 0), (33, .iadd, 1, .null, 0, 0), (34, .goto 41, 3, .null, 75, 0), (37, .iload_n 1, 1, .null, 0, 0), (38, .iconst 2, 1, .int 2, 0, 0), (39, .if_icmp .ne 15, 3, .null, 54, 0), (42, .iload_n 2, 1, .null, 0, 0), (43, .iconst 4, 1, .int 4, 0, 0), (44, .iadd, 1, .null, 0, 0), (45, .aload_n 0, 1, .null, 0, 0), (46, .iload_n 2, 1, .null, 0, 0), (47, .invokevirtual 91, 3, .null, 64, 0), (50, .iadd, 1, .null, 0, 0), (51, .goto 24, 3, .null, 75, 0), (54, .iload_n 1, 1, .null, 0, 0), (55, .iconst 3, 1, .int 3, 0, 0), (56, .if_icmp .eq 8, 3, .null, 64, 0), (59, .iload_n 1, 1, .null, 0, 0), (60, .iconst 4, 1, .int 4, 0, 0), (61, .if_icmp .ne 13, 3, .null, 74, 0), (64, .iload_n 2, 1, .null, 0, 0), (65, .aload_n 0, 1, .null, 0, 0), (66, .iload_n 2, 1, .null, 0, 0), (67, .invokevirtual 91, 3, .null, 64, 0), (70, .iadd, 1, .null, 0, 0), (71, .goto 4, 3, .null, 75, 0), (74, .iload_n 2, 1, .null, 0, 0), (75, .ireturn, 1, .null, 0, 0)]
def am_r75 : List (Nat × am_R) := [(0, .iload_n 2, 1, .null, 0, 0), (1, .iload_n 1, 1, .null, 0, 0), (2, .isub, 1, .null, 0, 0), (3, .iconst 5, 1, .int 5, 0, 0), (4, .if_icmp .ge 5, 3, .null, 9, 0), (7, .iconst 0, 1, .int 0, 0, 0), (8, .ireturn, 1, .null, 0, 0), (9, .aload_n 0, 1, .null, 0, 0), (10, .iload_n 1, 1, .null, 0, 0), (11, .invokevirtual 91, 3, .null, 64, 0), (14, .istore_n 3, 1, .null, 0, 0), (15, .iload_n 3, 1, .null, 0, 0), (16, .iconst 1, 1, .int 1, 0, 0), (17, .if_icmp .lt 44, 3, .null, 61, 0), (20, .iload_n 3, 1, .null, 0, 0), (21, .iload_n 2, 1, .null, 0, 0), (22, .iload_n 1, 1, .null, 0, 0), (23, .isub, 1, .null, 0, 0), (24, .iconst 4, 1, .int 4, 0, 0), (25, .isub, 1, .null, 0, 0), (26, .if_icmp .gt 35, 3, .null, 61, 0), (29, .aload_n 0, 1, .null, 0, 0), (30, .getfield 7, 3, .null, 6, 1), (33, .iload_n 1, 1, .null, 0, 0), (34, .iconst 3, 1, .int 3, 0, 0), (35, .iadd, 1, .null, 0, 0), (36, .iload_n 3, 1, .null, 0, 0), (37, .iadd, 1, .null, 0, 0), (38, .baload, 1, .null, 0, 0), (39, .ifCond .ne 22, 3, .null, 61, 0), (42, .aload_n 0, 1, .null, 0, 0), (43, .iload_n 1, 1, .null, 0, 0), (44, .iconst 4, 1, .int 4, 0, 0), (45, .iadd, 1, .null, 0, 0), (46, .iload_n 1, 1, .null, 0, 0), (47, .iconst 3, 1, .int 3, 0, 0), (48, .iadd, 1, .null, 0, 0), (49, .iload_n 3, 1, .null, 0, 0), (50, .iadd, 1, .null, 0, 0), (51, .invokevirtual 107, 3, .null, 69, 0), (54, .ifCond .eq 7, 3, .null, 61, 0), (57, .iconst 1, 1, .int 1, 0, 0), (58, .goto 4, 3, .null, 62, 0), (61, .iconst 0, 1, .int 0, 0, 0), (62, .ireturn, 1, .null, 0, 0)]
def am_r76 : List (Nat × am_R) := [(0, .iload_n 1, 1, .null, 0, 0), (1, .ifCond .lt 11, 3, .null, 12, 0), (4, .iload_n 1, 1, .null, 0, 0), (5, .aload_n 0, 1, .null, 0, 0), (6, .getfield 76, 3, .null, 6, 2), (9, .if_icmp .le 6, 3, .null, 15, 0), (12, .bipush (-2), 2, .int (-2), 0, 0), (14, .ireturn, 1, .null, 0, 0), (15, .aload_n 0, 1, .null, 0, 0), (16, .iconst 0, 1, .int 0, 0, 0), (17, .putfield 76, 3, .null, 6, 2), (20, .iload_n 1, 1, .null, 0, 0), (21, .ifCond .le 22, 3, .null, 43, 0), (24, .aload_n 0, 1, .null, 0, 0), (25, .sipush 12000, 3, .int 12000, 0, 0), (28, .sipush 12000, 3, .int 12000, 0, 0), (31, .iload_n 1, 1, .null, 0, 0), (32, .iadd, 1, .null, 0, 0), (33, .invokevirtual 107, 3, .null, 69, 0), (36, .ifCond .eq 7, 3, .null, 43, 0), (39, .iconst 1, 1, .int 1, 0, 0), (40, .goto 4, 3, .null, 44, 0), (43, .iconst 0, 1, .int 0, 0, 0), (44, .istore_n 2, 1, .null, 0, 0), (45, .iconst 1, 1, .int 1, 0, 0), (46, .istore_n 3, 1, .null, 0, 0), (47, .iconst 0, 1, .int 0, 0, 0), (48, .istore 4, 2, .null, 0, 0), (50, .iload 4, 2, .null, 0, 0), (52, .iload_n 1, 1, .null, 0, 0), (53, .if_icmp .ge 103, 3, .null, 156, 0), (56, .aload_n 0, 1, .null, 0, 0), (57, .sipush 12000, 3, .int 12000, 0, 0), (60, .iload 4, 2, .null, 0, 0), (62, .iadd, 1, .null, 0, 0), (63, .invokevirtual 70, 3, .null, 65, 0), (66, .bipush 46, 2, .int 46, 0, 0), (68, .if_icmp .ne 7, 3, .null, 75, 0), (71, .iconst 1, 1, .int 1, 0, 0), (72, .goto 4, 3, .null, 76, 0), (75, .iconst 0, 1, .int 0, 0, 0), (76, .istore 5, 2, .null, 0, 0), (78, .iload_n 2, 1, .null, 0, 0), (79, .ifCond .eq 56, 3, .null, 135, 0), (82, .aload_n 0, 1, .null, 0, 0), (83, .getfield 7, 3, .null, 6, 1), (86, .sipush 12000, 3, .int 12000, 0, 0), (89, .iload 4, 2, .null, 0, 0), (91, .iadd, 1, .null, 0, 0), (92, .baload, 1, .null, 0, 0), (93, .ifCond .eq 42, 3, .null, 135, 0), (96, .iload 5, 2, .null, 0, 0), (98, .ifCond .eq 33, 3, .null, 131, 0), (101, .iload 4, 2, .null, 0, 0), (103, .ifCond .eq 32, 3, .null, 135, 0), (106, .iload 4, 2, .null, 0, 0), (108, .iload_n 1, 1, .null, 0, 0), (109, .iconst 1, 1, .int 1, 0, 0), (110, .isub, 1, .null, 0, 0), (111, .if_icmp .eq 24, 3, .null, 135, 0), (114, .aload_n 0, 1, .null, 0, 0), (115, .sipush 12000, 3, .int 12000, 0, 0), (118, .iload 4, 2, .null, 0, 0), (120, .iadd, 1, .null, 0, 0), (121, .iconst 1, 1, .int 1, 0, 0), (122, .isub, 1, .null, 0, 0), (123, .invokevirtual 70, 3, .null, 65, 0), (126, .bipush 46, 2, .int 46, 0, 0), (128, .if_icmp .eq 7, 3, .null, 135, 0), (131, .iconst 1, 1, .int 1, 0, 0), (132, .goto 4, 3, .null, 136, 0), (135, .iconst 0, 1, .int 0, 0, 0), (136, .istore_n 2, 1, .null, 0, 0), (137, .iload_n 3, 1, .null, 0, 0), (138, .iload 5, 2, .null, 0, 0), (140, .ifCond .eq 7, 3, .null, 147, 0), (143, .iconst 1, 1, .int 1, 0, 0), (144, .goto 4, 3, .null, 148, 0), (147, .iconst 0, 1, .int 0, 0, 0), (148, .iadd, 1, .null, 0, 0), (149, .istore_n 3, 1, .null, 0, 0), (150, .iinc 4 1, 3, .int 1, 0, 0), (153, .goto (-103), 3, .null, 50, 0), (156, .iload_n 2, 1, .null, 0, 0), (157, .ifCond .eq 9, 3, .null, 166, 0), (160, .iload_n 3, 1, .null, 0, 0), (161, .bipush 8, 2, .int 8, 0, 0), (163, .if_icmp .le 5, 3, .null, 168, 0), (166, .iconst (-1), 1, .int (-1), 0, 0), (167, .ireturn, 1, .null, 0, 0), (168, .aload_n 0, 1, .null, 0, 0), (169, .iconst 0, 1, .int 0, 0, 0), (170, .putfield 135, 3, .null, 6, 3), (173, .iconst 0, 1, .int 0, 0, 0), (174, .istore 4, 2, .null, 0, 0), (176, .iload 4, 2, .null, 0, 0), (178, .iload_n 1, 1, .null, 0, 0), (179, .if_icmp .ge 101, 3, .null, 280, 0), (182, .aload_n 0, 1, .null, 0, 0), (183, .sipush 12000, 3, .int 12000, 0, 0), (186, .iload 4, 2, .null, 0, 0), (188, .iadd, 1, .null, 0, 0), (189, .invokevirtual 70, 3, .null, 65, 0), (192, .bipush 46, 2, .int 46, 0, 0), (194, .if_icmp .ne 7, 3, .null, 201, 0), (197, .iconst 1, 1, .int 1, 0, 0), (198, .goto 4, 3, .null, 202, 0), (201, .iconst 0, 1, .int 0, 0, 0), (202, .istore 5, 2, .null, 0, 0), (204, .iload 4, 2, .null, 0, 0), (206, .ifCond .eq 20, 3, .null, 226, 0), (209, .aload_n 0, 1, .null, 0, 0), (210, .sipush 12000, 3, .int 12000, 0, 0), (213, .iload 4, 2, .null, 0, 0), (215, .iadd, 1, .null, 0, 0), (216, .iconst 1, 1, .int 1, 0, 0), (217, .isub, 1, .null, 0, 0), (218, .invokevirtual 70, 3, .null, 65, 0), (221, .bipush 46, 2, .int 46, 0, 0), (223, .if_icmp .ne 24, 3, .null, 247, 0), (226, .aload_n 0, 1, .null, 0, 0), (227, .getfield 13, 3, .null, 6, 4), (230, .aload_n 0, 1, .null, 0, 0), (231, .getfield 135, 3, .null, 6, 3), (234, .iload 4, 2, .null, 0, 0), (236, .iastore, 1, .null, 0, 0), (237, .aload_n 0, 1, .null, 0, 0), (238, .dup, 1, .null, 0, 0), (239, .getfield 135, 3, .null, 6, 3), (242, .iconst 1, 1, .int 1, 0, 0), (243, .iadd, 1, .null, 0, 0), (244, .putfield 135, 3, .null, 6, 3), (247, .aload_n 0, 1, .null, 0, 0), (248, .getfield 17, 3, .null, 6, 5), (251, .iload 4, 2, .null, 0, 0), (253, .iload 5, 2, .null, 0, 0), (255, .ifCond .eq 7, 3, .null, 262, 0), (258, .iconst 0, 1, .int 0, 0, 0), (259, .goto 14, 3, .null, 273, 0), (262, .aload_n 0, 1, .null, 0, 0), (263, .getfield 7, 3, .null, 6, 1), (266, .sipush 12000, 3, .int 12000, 0, 0), (269, .iload 4, 2, .null, 0, 0), (271, .iadd, 1, .null, 0, 0), (272, .baload, 1, .null, 0, 0), (273, .bastore, 1, .null, 0, 0), (274, .iinc 4 1, 3, .int 1, 0, 0), (277, .goto (-101), 3, .null, 176, 0), (280, .aload_n 0, 1, .null, 0, 0), (281, .getfield 17, 3, .null, 6, 5), (284, .iload_n 1, 1, .null, 0, 0), (285, .iconst 0, 1, .int 0, 0, 0), (286, .bastore, 1, .null, 0, 0), (287, .aload_n 0, 1, .null, 0, 0), (288, .getfield 135, 3, .null, 6, 3), (291, .ireturn, 1, .null, 0, 0)]
def am_r77 : List (Nat × am_R) := [(0, .iload_n 1, 1, .null, 0, 0), (1, .invokestatic 128, 3, .null, 62, 0), (4, .ifCond .eq 10, 3, .null, 14, 0), (7, .iload_n 2, 1, .null, 0, 0), (8, .invokestatic 128, 3, .null, 62, 0), (11, .ifCond .ne 8, 3, .null, 19, 0), (14, .bipush (-2), 2, .int (-2), 0, 0), (16, .goto 19, 3, .null, 35, 0), (19, .aload_n 0, 1, .null, 0, 0), (20, .iconst 3, 1, .int 3, 0, 0), (21, .sipush 2000, 3, .int 2000, 0, 0), (24, .iload_n 1, 1, .null, 0, 0), (25, .imul, 1, .null, 0, 0), (26, .iconst 3, 1, .int 3, 0, 0), (27, .sipush 2000, 3, .int 2000, 0, 0), (30, .iload_n 2, 1, .null, 0, 0), (31, .imul, 1, .null, 0, 0), (32, .invokevirtual 156, 3, .null, 78, 0), (35, .ireturn, 1, .null, 0, 0)]
def am_r78 : List (Nat × am_R) := [(0, .aload_n 0, 1, .null, 0, 0), (1, .iconst 0, 1, .int 0, 0, 0), (2, .putfield 104, 3, .null, 6, 17), (5, .aload_n 0, 1, .null, 0, 0), (6, .iload_n 1, 1, .null, 0, 0), (7, .iload_n 2, 1, .null, 0, 0), (8, .iload_n 3, 1, .null, 0, 0), (9, .iload 4, 2, .null, 0, 0), (11, .invokevirtual 153, 3, .null, 79, 0), (14, .istore 5, 2, .null, 0, 0), (16, .iload 5, 2, .null, 0, 0), (18, .ifCond .ne 319, 3, .null, 337, 0), (21, .aload_n 0, 1, .null, 0, 0), (22, .getfield 104, 3, .null, 6, 17), (25, .ifCond .le 312, 3, .null, 337, 0), (28, .aload_n 0, 1, .null, 0, 0), (29, .getfield 104, 3, .null, 6, 17), (32, .iconst 1, 1, .int 1, 0, 0), (33, .isub, 1, .null, 0, 0), (34, .istore 6, 2, .null, 0, 0), (36, .aload_n 0, 1, .null, 0, 0), (37, .getfield 47, 3, .null, 6, 18), (40, .iload 6, 2, .null, 0, 0), (42, .iaload, 1, .null, 0, 0), (43, .istore 7, 2, .null, 0, 0), (45, .aload_n 0, 1, .null, 0, 0), (46, .getfield 53, 3, .null, 6, 20), (49, .iload 6, 2, .null, 0, 0), (51, .iaload, 1, .null, 0, 0), (52, .istore 8, 2, .null, 0, 0), (54, .iload 7, 2, .null, 0, 0), (56, .aload_n 0, 1, .null, 0, 0), (57, .getfield 50, 3, .null, 6, 19), (60, .iload 6, 2, .null, 0, 0), (62, .iaload, 1, .null, 0, 0), (63, .if_icmp .ne 7, 3, .null, 70, 0), (66, .iconst 1, 1, .int 1, 0, 0), (67, .goto 4, 3, .null, 71, 0), (70, .iconst 0, 1, .int 0, 0, 0), (71, .istore 9, 2, .null, 0, 0), (73, .iload 8, 2, .null, 0, 0), (75, .aload_n 0, 1, .null, 0, 0), (76, .getfield 56, 3, .null, 6, 21), (79, .iload 6, 2, .null, 0, 0), (81, .iaload, 1, .null, 0, 0), (82, .if_icmp .ne 7, 3, .null, 89, 0), (85, .iconst 1, 1, .int 1, 0, 0), (86, .goto 4, 3, .null, 90, 0), (89, .iconst 0, 1, .int 0, 0, 0), (90, .istore 10, 2, .null, 0, 0), (92, .iload 9, 2, .null, 0, 0), (94, .ifCond .ne 8, 3, .null, 102, 0), (97, .iload 10, 2, .null, 0, 0), (99, .ifCond .eq 42, 3, .null, 141, 0), (102, .aload_n 0, 1, .null, 0, 0), (103, .dup, 1, .null, 0, 0), (104, .getfield 104, 3, .null, 6, 17), (107, .iconst 1, 1, .int 1, 0, 0), (108, .isub, 1, .null, 0, 0), (109, .putfield 104, 3, .null, 6, 17), (112, .iload 9, 2, .null, 0, 0), (114, .ifCond .eq 12, 3, .null, 126, 0), (117, .iload 10, 2, .null, 0, 0), (119, .ifCond .eq 7, 3, .null, 126, 0), (122, .iconst 0, 1, .int 0, 0, 0), (123, .goto 13, 3, .null, 136, 0), (126, .iload 9, 2, .null, 0, 0), (128, .ifCond .eq 7, 3, .null, 135, 0), (131, .iconst (-1), 1, .int (-1), 0, 0), (132, .goto 4, 3, .null, 136, 0), (135, .iconst 1, 1, .int 1, 0, 0), (136, .istore 5, 2, .null, 0, 0), (138, .goto (-122), 3, .null, 16, 0), (141, .aload_n 0, 1, .null, 0, 0), (142, .iload 7, 2, .null, 0, 0), (144, .iconst 1, 1, .int 1, 0, 0), (145, .iadd, 1, .null, 0, 0), (146, .aload_n 0, 1, .null, 0, 0), (147, .getfield 50, 3, .null, 6, 19), (150, .iload 6, 2, .null, 0, 0), (152, .iaload, 1, .null, 0, 0), (153, .invokevirtual 98, 3, .null, 68, 0), (156, .istore 11, 2, .null, 0, 0), (158, .aload_n 0, 1, .null, 0, 0), (159, .iload 8, 2, .null, 0, 0), (161, .iconst 1, 1, .int 1, 0, 0), (162, .iadd, 1, .null, 0, 0), (163, .aload_n 0, 1, .null, 0, 0), (164, .getfield 56, 3, .null, 6, 21), (167, .iload 6, 2, .null, 0, 0), (169, .iaload, 1, .null, 0, 0), (170, .invokevirtual 98, 3, .null, 68, 0), (173, .istore 12, 2, .null, 0, 0), (175, .aload_n 0, 1, .null, 0, 0), (176, .iload 7, 2, .null, 0, 0), (178, .invokevirtual 70, 3, .null, 65, 0), (181, .invokestatic 142, 3, .null, 80, 0), (184, .istore 13, 2, .null, 0, 0), (186, .aload_n 0, 1, .null, 0, 0), (187, .iload 8, 2, .null, 0, 0), (189, .invokevirtual 70, 3, .null, 65, 0), (192, .invokestatic 142, 3, .null, 80, 0), (195, .istore 14, 2, .null, 0, 0), (197, .iload 13, 2, .null, 0, 0), (199, .iload 14, 2, .null, 0, 0), (201, .if_icmp .ge 7, 3, .null, 208, 0), (204, .iconst (-1), 1, .int (-1), 0, 0), (205, .goto 54, 3, .null, 259, 0), (208, .iload 13, 2, .null, 0, 0), (210, .iload 14, 2, .null, 0, 0), (212, .if_icmp .le 7, 3, .null, 219, 0), (215, .iconst 1, 1, .int 1, 0, 0), (216, .goto 43, 3, .null, 259, 0), (219, .aload_n 0, 1, .null, 0, 0), (220, .getfield 59, 3, .null, 6, 22), (223, .iload 6, 2, .null, 0, 0), (225, .baload, 1, .null, 0, 0), (226, .ifCond .eq 7, 3, .null, 233, 0), (229, .iconst 0, 1, .int 0, 0, 0), (230, .goto 29, 3, .null, 259, 0), (233, .aload_n 0, 1, .null, 0, 0), (234, .iload 7, 2, .null, 0, 0), (236, .iconst 1, 1, .int 1, 0, 0), (237, .iadd, 1, .null, 0, 0), (238, .iload 11, 2, .null, 0, 0), (240, .iload 7, 2, .null, 0, 0), (242, .isub, 1, .null, 0, 0), (243, .iconst 1, 1, .int 1, 0, 0), (244, .isub, 1, .null, 0, 0), (245, .iload 8, 2, .null, 0, 0), (247, .iconst 1, 1, .int 1, 0, 0), (248, .iadd, 1, .null, 0, 0), (249, .iload 12, 2, .null, 0, 0), (251, .iload 8, 2, .null, 0, 0), (253, .isub, 1, .null, 0, 0), (254, .iconst 1, 1, .int 1, 0, 0), (255, .isub, 1, .null, 0, 0), (256, .invokevirtual 149, 3, .null, 82, 0), (259, .istore 5, 2, .null, 0, 0), (261, .aload_n 0, 1, .null, 0, 0), (262, .getfield 47, 3, .null, 6, 18), (265, .iload 6, 2, .null, 0, 0), (267, .aload_n 0, 1, .null, 0, 0), (268, .aload_n 0, 1, .null, 0, 0), (269, .iload 7, 2, .null, 0, 0), (271, .invokevirtual 70, 3, .null, 65, 0), (274, .iload 11, 2, .null, 0, 0), (276, .iconst 1, 1, .int 1, 0, 0), (277, .iadd, 1, .null, 0, 0), (278, .invokevirtual 101, 3, .null, 74, 0), (281, .iastore, 1, .null, 0, 0), (282, .aload_n 0, 1, .null, 0, 0), (283, .getfield 53, 3, .null, 6, 20), (286, .iload 6, 2, .null, 0, 0), (288, .aload_n 0, 1, .null, 0, 0), (289, .aload_n 0, 1, .null, 0, 0), (290, .iload 8, 2, .null, 0, 0), (292, .invokevirtual 70, 3, .null, 65, 0), (295, .iload 12, 2, .null, 0, 0), (297, .iconst 1, 1, .int 1, 0, 0), (298, .iadd, 1, .null, 0, 0), (299, .invokevirtual 101, 3, .null, 74, 0), (302, .iastore, 1, .null, 0, 0), (303, .iload 5, 2, .null, 0, 0), (305, .ifCond .ne 29, 3, .null, 334, 0), (308, .aload_n 0, 1, .null, 0, 0), (309, .aload_n 0, 1, .null, 0, 0), (310, .iload 7, 2, .null, 0, 0), (312, .invokevirtual 70, 3, .null, 65, 0), (315, .iload 11, 2, .null, 0, 0), (317, .iconst 1, 1, .int 1, 0, 0), (318, .iadd, 1, .null, 0, 0), (319, .aload_n 0, 1, .null, 0, 0), (320, .iload 8, 2, .null, 0, 0), (322, .invokevirtual 70, 3, .null, 65, 0), (325, .iload 12, 2, .null, 0, 0), (327, .iconst 1, 1, .int 1, 0, 0), (328, .iadd, 1, .null, 0, 0), (329, .invokevirtual 153, 3, .null, 79, 0), (332, .istore 5, 2, .null, 0, 0), (334, .goto (-318), 3, .null, 16, 0), (337, .iload 5, 2, .null, 0, 0), (339, .ireturn, 1, .null, 0, 0)]
def am_r79 : List (Nat × am_R) := [(0, .iload_n 1, 1, .null, 0, 0), (1, .invokestatic 142, 3, .null, 80, 0), (4, .istore 5, 2, .null, 0, 0), (6, .iload 5, 2, .null, 0, 0), (8, .iload_n 3, 1, .null, 0, 0), (9, .invokestatic 142, 3, .null, 80, 0), (12, .if_icmp .eq 18, 3, .null, 30, 0), (15, .iload 5, 2, .null, 0, 0), (17, .iload_n 3, 1, .null, 0, 0), (18, .invokestatic 142, 3, .null, 80, 0), (21, .if_icmp .ge 7, 3, .null, 28, 0), (24, .iconst (-1), 1, .int (-1), 0, 0), (25, .goto 4, 3, .null, 29, 0), (28, .iconst 1, 1, .int 1, 0, 0), (29, .ireturn, 1, .null, 0, 0), (30, .iload 5, 2, .null, 0, 0), (32, .iconst 2, 1, .int 2, 0, 0), (33, .if_icmp .eq 10, 3, .null, 43, 0), (36, .iload 5, 2, .null, 0, 0), (38, .bipush 6, 2, .int 6, 0, 0), (40, .if_icmp .ne 46, 3, .null, 86, 0), (43, .aload_n 0, 1, .null, 0, 0), (44, .iload_n 1, 1, .null, 0, 0), (45, .iload_n 2, 1, .null, 0, 0), (46, .invokevirtual 145, 3, .null, 81, 0), (49, .lstore 6, 2, .null, 0, 0), (51, .aload_n 0, 1, .null, 0, 0), (52, .iload_n 3, 1, .null, 0, 0), (53, .iload 4, 2, .null, 0, 0), (55, .invokevirtual 145, 3, .null, 81, 0), (58, .lstore 8, 2, .null, 0, 0), (60, .lload 6, 2, .null, 0, 0), (62, .lload 8, 2, .null, 0, 0), (64, .lcmp, 1, .null, 0, 0), (65, .ifCond .ge 7, 3, .null, 72, 0), (68, .iconst (-1), 1, .int (-1), 0, 0), (69, .goto 16, 3, .null, 85, 0), (72, .lload 6, 2, .null, 0, 0), (74, .lload 8, 2, .null, 0, 0), (76, .lcmp, 1, .null, 0, 0), (77, .ifCond .le 7, 3, .null, 84, 0), (80, .iconst 1, 1, .int 1, 0, 0), (81, .goto 4, 3, .null, 85, 0), (84, .iconst 0, 1, .int 0, 0, 0), (85, .ireturn, 1, .null, 0, 0), (86, .iload 5, 2, .null, 0, 0), (88, .iconst 3, 1, .int 3, 0, 0), (89, .if_icmp .ne 30, 3, .null, 119, 0), (92, .aload_n 0, 1, .null, 0, 0), (93, .iload_n 2, 1, .null, 0, 0), (94, .iconst 4, 1, .int 4, 0, 0), (95, .iadd, 1, .null, 0, 0), (96, .aload_n 0, 1, .null, 0, 0), (97, .iload_n 2, 1, .null, 0, 0), (98, .invokevirtual 91, 3, .null, 64, 0), (101, .iconst 1, 1, .int 1, 0, 0), (102, .isub, 1, .null, 0, 0), (103, .iload 4, 2, .null, 0, 0), (105, .iconst 4, 1, .int 4, 0, 0), (106, .iadd, 1, .null, 0, 0), (107, .aload_n 0, 1, .null, 0, 0), (108, .iload 4, 2, .null, 0, 0), (110, .invokevirtual 91, 3, .null, 64, 0), (113, .iconst 1, 1, .int 1, 0, 0), (114, .isub, 1, .null, 0, 0), (115, .invokevirtual 149, 3, .null, 82, 0), (118, .ireturn, 1, .null, 0, 0), (119, .iload 5, 2, .null, 0, 0), (121, .iconst 4, 1, .int 4, 0, 0), (122, .if_icmp .eq 9, 3, .null, 131, 0), (125, .iload 5, 2, .null, 0, 0), (127, .iconst 5, 1, .int 5, 0, 0), (128, .if_icmp .ne 96, 3, .null, 224, 0), (131, .aload_n 0, 1, .null, 0, 0), (132, .getfield 47, 3, .null, 6, 18), (135, .aload_n 0, 1, .null, 0, 0), (136, .getfield 104, 3, .null, 6, 17), (139, .iload_n 2, 1, .null, 0, 0), (140, .iconst 4, 1, .int 4, 0, 0), (141, .iadd, 1, .null, 0, 0), (142, .iastore, 1, .null, 0, 0), (143, .aload_n 0, 1, .null, 0, 0), (144, .getfield 50, 3, .null, 6, 19), (147, .aload_n 0, 1, .null, 0, 0), (148, .getfield 104, 3, .null, 6, 17), (151, .iload_n 2, 1, .null, 0, 0), (152, .aload_n 0, 1, .null, 0, 0), (153, .iload_n 2, 1, .null, 0, 0), (154, .invokevirtual 91, 3, .null, 64, 0), (157, .iadd, 1, .null, 0, 0), (158, .iconst 1, 1, .int 1, 0, 0), (159, .isub, 1, .null, 0, 0), (160, .iastore, 1, .null, 0, 0), (161, .aload_n 0, 1, .null, 0, 0), (162, .getfield 53, 3, .null, 6, 20), (165, .aload_n 0, 1, .null, 0, 0), (166, .getfield 104, 3, .null, 6, 17), (169, .iload 4, 2, .null, 0, 0), (171, .iconst 4, 1, .int 4, 0, 0), (172, .iadd, 1, .null, 0, 0), (173, .iastore, 1, .null, 0, 0), (174, .aload_n 0, 1, .null, 0, 0), (175, .getfield 56, 3, .null, 6, 21), (178, .aload_n 0, 1, .null, 0, 0), (179, .getfield 104, 3, .null, 6, 17), (182, .iload 4, 2, .null, 0, 0), (184, .aload_n 0, 1, .null, 0, 0), (185, .iload 4, 2, .null, 0, 0), (187, .invokevirtual 91, 3, .null, 64, 0), (190, .iadd, 1, .null, 0, 0), (191, .iconst 1, 1, .int 1, 0, 0), (192, .isub, 1, .null, 0, 0), (193, .iastore, 1, .null, 0, 0), (194, .aload_n 0, 1, .null, 0, 0), (195, .getfield 59, 3, .null, 6, 22), (198, .aload_n 0, 1, .null, 0, 0), (199, .getfield 104, 3, .null, 6, 17), (202, .iload 5, 2, .null, 0, 0), (204, .iconst 5, 1, .int 5, 0, 0), (205, .if_icmp .ne 7, 3, .null, 212, 0), (208, .iconst 1, 1, .int 1, 0, 0), (209, .goto 4, 3, .null, 213, 0), (212, .iconst 0, 1, .int 0, 0, 0), (213, .bastore, 1, .null, 0, 0), (214, .aload_n 0, 1, .null, 0, 0), (215, .dup, 1, .null, 0, 0), (216, .getfield 104, 3, .null, 6, 17), (219, .iconst 1, 1, .int 1, 0, 0), (220, .iadd, 1, .null, 0, 0), (221, .putfield 104, 3, .null, 6, 17), (224, .iconst 0, 1, .int 0, 0, 0), (225, .ireturn, 1, .null, 0, 0)]
def am_r80 : List (Nat × am_R) := [(0, .iload_n 0, 1, .null, 0, 0), (1, .bipush 10, 2, .int 10, 0, 0), (3, .if_icmp .ne 7, 3, .null, 10, 0), (6, .iconst 1, 1, .int 1, 0, 0), (7, .goto 58, 3, .null, 65, 0), (10, .iload_n 0, 1, .null, 0, 0), (11, .bipush 16, 2, .int 16, 0, 0), (13, .if_icmp .eq 9, 3, .null, 22, 0), (16, .iload_n 0, 1, .null, 0, 0), (17, .bipush 18, 2, .int 18, 0, 0), (19, .if_icmp .ne 7, 3, .null, 26, 0), (22, .iconst 2, 1, .int 2, 0, 0), (23, .goto 42, 3, .null, 65, 0), (26, .iload_n 0, 1, .null, 0, 0), (27, .iconst 2, 1, .int 2, 0, 0), (28, .if_icmp .ne 7, 3, .null, 35, 0), (31, .iconst 3, 1, .int 3, 0, 0), (32, .goto 33, 3, .null, 65, 0), (35, .iload_n 0, 1, .null, 0, 0), (36, .iconst 3, 1, .int 3, 0, 0), (37, .if_icmp .ne 7, 3, .null, 44, 0), (40, .iconst 4, 1, .int 4, 0, 0), (41, .goto 24, 3, .null, 65, 0), (44, .iload_n 0, 1, .null, 0, 0), (45, .iconst 4, 1, .int 4, 0, 0), (46, .if_icmp .ne 7, 3, .null, 53, 0), (49, .iconst 5, 1, .int 5, 0, 0), (50, .goto 15, 3, .null, 65, 0), (53, .iload_n 0, 1, .null, 0, 0), (54, .bipush 8, 2, .int 8, 0, 0), (56, .if_icmp .ne 8, 3, .null, 64, 0), (59, .bipush 6, 2, .int 6, 0, 0), (61, .goto 4, 3, .null, 65, 0), (64, .iconst 0, 1, .int 0, 0, 0), (65, .ireturn, 1, .null, 0, 0)]
def am_r81 : List (Nat × am_R) := [(0, .iload_n 1, 1, .null, 0, 0), (1, .bipush 16, 2, .int 16, 0, 0), (3, .if_icmp .ne 10, 3, .null, 13, 0), (6, .aload_n 0, 1, .null, 0, 0), (7, .iload_n 2, 1, .null, 0, 0), (8, .invokevirtual 91, 3, .null, 64, 0), (11, .i2l, 1, .null, 0, 0), (12, .lreturn, 1, .null, 0, 0), (13, .iload_n 1, 1, .null, 0, 0), (14, .bipush 8, 2, .int 8, 0, 0), (16, .if_icmp .ne 10, 3, .null, 26, 0), (19, .aload_n 0, 1, .null, 0, 0), (20, .iload_n 2, 1, .null, 0, 0), (21, .invokevirtual 70, 3, .null, 65, 0), (24, .i2l, 1, .null, 0, 0), (25, .lreturn, 1, .null, 0, 0), (26, .aload_n 0, 1, .null, 0, 0), (27, .iload_n 2, 1, .null, 0, 0), (28, .iconst 4, 1, .int 4, 0, 0), (29, .iadd, 1, .null, 0, 0), (30, .invokevirtual 91, 3, .null, 64, 0), (33, .i2l, 1, .null, 0, 0), (34, .lstore_n 3, 1, .null, 0, 0), (35, .iload_n 1, 1, .null, 0, 0), (36, .bipush 18, 2, .int 18, 0, 0), (38, .if_icmp .ne 22, 3, .null, 60, 0), (41, .lload_n 3, 1, .null, 0, 0), (42, .ldc2_w 138, 3, .long 4294967296, 0, 0), (45, .lmul, 1, .null, 0, 0), (46, .aload_n 0, 1, .null, 0, 0), (47, .iload_n 2, 1, .null, 0, 0), (48, .invokevirtual 91, 3, .null, 64, 0), (51, .i2l, 1, .null, 0, 0), (52, .ldc2_w 140, 3, .long 4294967295, 0, 0), (55, .land, 1, .null, 0, 0), (56, .ladd, 1, .null, 0, 0), (57, .goto 4, 3, .null, 61, 0), (60, .lconst 0, 1, .long 0, 0, 0), (61, .lreturn, 1, .null, 0, 0)]
def am_r82 : List (Nat × am_R) := [(0, .iconst 0, 1, .int 0, 0, 0), (1, .istore 5, 2, .null, 0, 0), (3, .iload 5, 2, .null, 0, 0), (5, .iload_n 2, 1, .null, 0, 0), (6, .if_icmp .ge 60, 3, .null, 66, 0), (9, .iload 5, 2, .null, 0, 0), (11, .iload 4, 2, .null, 0, 0), (13, .if_icmp .ge 53, 3, .null, 66, 0), (16, .aload_n 0, 1, .null, 0, 0), (17, .iload_n 1, 1, .null, 0, 0), (18, .iload 5, 2, .null, 0, 0), (20, .iadd, 1, .null, 0, 0), (21, .invokevirtual 70, 3, .null, 65, 0), (24, .aload_n 0, 1, .null, 0, 0), (25, .iload_n 3, 1, .null, 0, 0), (26, .iload 5, 2, .null, 0, 0), (28, .iadd, 1, .null, 0, 0), (29, .invokevirtual 70, 3, .null, 65, 0), (32, .if_icmp .eq 28, 3, .null, 60, 0), (35, .aload_n 0, 1, .null, 0, 0), (36, .iload_n 1, 1, .null, 0, 0), (37, .iload 5, 2, .null, 0, 0), (39, .iadd, 1, .null, 0, 0), (40, .invokevirtual 70, 3, .null, 65, 0), (43, .aload_n 0, 1, .null, 0, 0), (44, .iload_n 3, 1, .null, 0, 0), (45, .iload 5, 2, .null, 0, 0), (47, .iadd, 1, .null, 0, 0), (48, .invokevirtual 70, 3, .null, 65, 0), (51, .if_icmp .ge 7, 3, .null, 58, 0), (54, .iconst (-1), 1, .int (-1), 0, 0), (55, .goto 4, 3, .null, 59, 0), (58, .iconst 1, 1, .int 1, 0, 0), (59, .ireturn, 1, .null, 0, 0), (60, .iinc 5 1, 3, .int 1, 0, 0), (63, .goto (-60), 3, .null, 3, 0), (66, .iload_n 2, 1, .null, 0, 0), (67, .iload 4, 2, .null, 0, 0), (69, .if_icmp .ge 7, 3, .null, 76, 0), (72, .iconst (-1), 1, .int (-1), 0, 0), (73, .goto 14, 3, .null, 87, 0), (76, .iload_n 2, 1, .null, 0, 0), (77, .iload 4, 2, .null, 0, 0), (79, .if_icmp .le 7, 3, .null, 86, 0), (82, .iconst 1, 1, .int 1, 0, 0), (83, .goto 4, 3, .null, 87, 0), (86, .iconst 0, 1, .int 0, 0, 0), (87, .ireturn, 1, .null, 0, 0)]
def am_r83 : List (Nat × am_R) := [(0, .iload_n 1, 1, .null, 0, 0), (1, .ifCond .lt 22, 3, .null, 23, 0), (4, .iload_n 1, 1, .null, 0, 0), (5, .iconst 1, 1, .int 1, 0, 0), (6, .if_icmp .gt 17, 3, .null, 23, 0), (9, .iload_n 2, 1, .null, 0, 0), (10, .invokestatic 128, 3, .null, 62, 0), (13, .ifCond .eq 10, 3, .null, 23, 0), (16, .aload_n 0, 1, .null, 0, 0), (17, .getfield 135, 3, .null, 6, 3), (20, .ifCond .ne 6, 3, .null, 26, 0), (23, .bipush (-2), 2, .int (-2), 0, 0), (25, .ireturn, 1, .null, 0, 0), (26, .aload_n 0, 1, .null, 0, 0), (27, .iload_n 2, 1, .null, 0, 0), (28, .iload_n 3, 1, .null, 0, 0), (29, .iconst 0, 1, .int 0, 0, 0), (30, .invokevirtual 186, 3, .null, 84, 0), (33, .istore 4, 2, .null, 0, 0), (35, .aload_n 0, 1, .null, 0, 0), (36, .getfield 20, 3, .null, 6, 6), (39, .iload_n 1, 1, .null, 0, 0), (40, .iload 4, 2, .null, 0, 0), (42, .sipush 500, 3, .int 500, 0, 0), (45, .if_icmp .le 7, 3, .null, 52, 0), (48, .iconst 0, 1, .int 0, 0, 0), (49, .goto 5, 3, .null, 54, 0), (52, .iload 4, 2, .null, 0, 0), (54, .iastore, 1, .null, 0, 0), (55, .iload 4, 2, .null, 0, 0), (57, .sipush 500, 3, .int 500, 0, 0), (60, .if_icmp .le 5, 3, .null, 65, 0), (63, .iconst (-1), 1, .int (-1), 0, 0), (64, .ireturn, 1, .null, 0, 0), (65, .sipush 8000, 3, .int 8000, 0, 0), (68, .sipush 2000, 3, .int 2000, 0, 0), (71, .iload_n 1, 1, .null, 0, 0), (72, .imul, 1, .null, 0, 0), (73, .iadd, 1, .null, 0, 0), (74, .istore 5, 2, .null, 0, 0), (76, .aload_n 0, 1, .null, 0, 0), (77, .sipush 2000, 3, .int 2000, 0, 0), (80, .iload_n 2, 1, .null, 0, 0), (81, .imul, 1, .null, 0, 0), (82, .invokevirtual 91, 3, .null, 64, 0), (85, .istore 6, 2, .null, 0, 0), (87, .iconst 0, 1, .int 0, 0, 0), (88, .istore 7, 2, .null, 0, 0), (90, .iload 7, 2, .null, 0, 0), (92, .iload 6, 2, .null, 0, 0), (94, .if_icmp .ge 32, 3, .null, 126, 0), (97, .aload_n 0, 1, .null, 0, 0), (98, .getfield 7, 3, .null, 6, 1), (101, .iload 5, 2, .null, 0, 0), (103, .iload 7, 2, .null, 0, 0), (105, .iadd, 1, .null, 0, 0), (106, .aload_n 0, 1, .null, 0, 0), (107, .getfield 7, 3, .null, 6, 1), (110, .sipush 2000, 3, .int 2000, 0, 0), (113, .iload_n 2, 1, .null, 0, 0), (114, .imul, 1, .null, 0, 0), (115, .iload 7, 2, .null, 0, 0), (117, .iadd, 1, .null, 0, 0), (118, .baload, 1, .null, 0, 0), (119, .bastore, 1, .null, 0, 0), (120, .iinc 7 1, 3, .int 1, 0, 0), (123, .goto (-33), 3, .null, 90, 0), (126, .iconst 0, 1, .int 0, 0, 0), (127, .istore 7, 2, .null, 0, 0), (129, .iload 7, 2, .null, 0, 0), (131, .iload 4, 2, .null, 0, 0), (133, .if_icmp .ge 73, 3, .null, 206, 0), (136, .aload_n 0, 1, .null, 0, 0), (137, .getfield 23, 3, .null, 6, 7), (140, .sipush 500, 3, .int 500, 0, 0), (143, .iload_n 1, 1, .null, 0, 0), (144, .imul, 1, .null, 0, 0), (145, .iload 7, 2, .null, 0, 0), (147, .iadd, 1, .null, 0, 0), (148, .aload_n 0, 1, .null, 0, 0), (149, .getfield 32, 3, .null, 6, 11), (152, .iload 7, 2, .null, 0, 0), (154, .iaload, 1, .null, 0, 0), (155, .iastore, 1, .null, 0, 0), (156, .aload_n 0, 1, .null, 0, 0), (157, .getfield 26, 3, .null, 6, 8), (160, .sipush 500, 3, .int 500, 0, 0), (163, .iload_n 1, 1, .null, 0, 0), (164, .imul, 1, .null, 0, 0), (165, .iload 7, 2, .null, 0, 0), (167, .iadd, 1, .null, 0, 0), (168, .aload_n 0, 1, .null, 0, 0), (169, .getfield 35, 3, .null, 6, 12), (172, .iload 7, 2, .null, 0, 0), (174, .iaload, 1, .null, 0, 0), (175, .sipush 2000, 3, .int 2000, 0, 0), (178, .iload_n 2, 1, .null, 0, 0), (179, .imul, 1, .null, 0, 0), (180, .isub, 1, .null, 0, 0), (181, .iload 5, 2, .null, 0, 0), (183, .iadd, 1, .null, 0, 0), (184, .iastore, 1, .null, 0, 0), (185, .aload_n 0, 1, .null, 0, 0), (186, .getfield 29, 3, .null, 6, 9), (189, .sipush 500, 3, .int 500, 0, 0), (192, .iload_n 1, 1, .null, 0, 0), (193, .imul, 1, .null, 0, 0), (194, .iload 7, 2, .null, 0, 0), (196, .iadd, 1, .null, 0, 0), (197, .iload 7, 2, .null, 0, 0), (199, .iastore, 1, .null, 0, 0), (200, .iinc 7 1, 3, .int 1, 0, 0), (203, .goto (-74), 3, .null, 129, 0), (206, .iload 4, 2, .null, 0, 0), (208, .ireturn, 1, .null, 0, 0)]
def am_r84 : List (Nat × am_R) := [(0, .aload_n 0, 1, .null, 0, 0), (1, .iconst 0, 1, .int 0, 0, 0), (2, .putfield 162, 3, .null, 6, 10), (5, .aload_n 0, 1, .null, 0, 0), (6, .iconst 0, 1, .int 0, 0, 0), (7, .putfield 159, 3, .null, 6, 13), (10, .aload_n 0, 1, .null, 0, 0), (11, .iconst 3, 1, .int 3, 0, 0), (12, .sipush 2000, 3, .int 2000, 0, 0), (15, .iload_n 1, 1, .null, 0, 0), (16, .imul, 1, .null, 0, 0), (17, .iconst 0, 1, .int 0, 0, 0), (18, .invokevirtual 168, 3, .null, 85, 0), (21, .aload_n 0, 1, .null, 0, 0), (22, .getfield 159, 3, .null, 6, 13), (25, .ifCond .le 175, 3, .null, 200, 0), (28, .aload_n 0, 1, .null, 0, 0), (29, .getfield 162, 3, .null, 6, 10), (32, .sipush 500, 3, .int 500, 0, 0), (35, .if_icmp .gt 165, 3, .null, 200, 0), (38, .aload_n 0, 1, .null, 0, 0), (39, .dup, 1, .null, 0, 0), (40, .getfield 159, 3, .null, 6, 13), (43, .iconst 1, 1, .int 1, 0, 0), (44, .isub, 1, .null, 0, 0), (45, .putfield 159, 3, .null, 6, 13), (48, .aload_n 0, 1, .null, 0, 0), (49, .getfield 38, 3, .null, 6, 14), (52, .aload_n 0, 1, .null, 0, 0), (53, .getfield 159, 3, .null, 6, 13), (56, .iaload, 1, .null, 0, 0), (57, .istore 4, 2, .null, 0, 0), (59, .aload_n 0, 1, .null, 0, 0), (60, .getfield 41, 3, .null, 6, 15), (63, .aload_n 0, 1, .null, 0, 0), (64, .getfield 159, 3, .null, 6, 13), (67, .iaload, 1, .null, 0, 0), (68, .istore 5, 2, .null, 0, 0), (70, .aload_n 0, 1, .null, 0, 0), (71, .getfield 44, 3, .null, 6, 16), (74, .aload_n 0, 1, .null, 0, 0), (75, .getfield 159, 3, .null, 6, 13), (78, .iaload, 1, .null, 0, 0), (79, .istore 6, 2, .null, 0, 0), (81, .iload 6, 2, .null, 0, 0), (83, .aload_n 0, 1, .null, 0, 0), (84, .getfield 135, 3, .null, 6, 3), (87, .if_icmp .ne 16, 3, .null, 103, 0), (90, .aload_n 0, 1, .null, 0, 0), (91, .iload_n 3, 1, .null, 0, 0), (92, .iload 4, 2, .null, 0, 0), (94, .iload 5, 2, .null, 0, 0), (96, .iload_n 2, 1, .null, 0, 0), (97, .invokevirtual 175, 3, .null, 86, 0), (100, .goto 97, 3, .null, 197, 0), (103, .iload 4, 2, .null, 0, 0), (105, .iconst 3, 1, .int 3, 0, 0), (106, .if_icmp .eq 9, 3, .null, 115, 0), (109, .iload 4, 2, .null, 0, 0), (111, .iconst 4, 1, .int 4, 0, 0), (112, .if_icmp .ne 78, 3, .null, 190, 0), (115, .aload_n 0, 1, .null, 0, 0), (116, .iload 5, 2, .null, 0, 0), (118, .iload 6, 2, .null, 0, 0), (120, .invokevirtual 179, 3, .null, 88, 0), (123, .istore 7, 2, .null, 0, 0), (125, .iload 4, 2, .null, 0, 0), (127, .iconst 4, 1, .int 4, 0, 0), (128, .if_icmp .ne 11, 3, .null, 139, 0), (131, .aload_n 0, 1, .null, 0, 0), (132, .iload 5, 2, .null, 0, 0), (134, .iload 6, 2, .null, 0, 0), (136, .invokevirtual 182, 3, .null, 90, 0), (139, .iload 7, 2, .null, 0, 0), (141, .ifCond .lt 33, 3, .null, 174, 0), (144, .aload_n 0, 1, .null, 0, 0), (145, .aload_n 0, 1, .null, 0, 0), (146, .iload 7, 2, .null, 0, 0), (148, .invokevirtual 70, 3, .null, 65, 0), (151, .aload_n 0, 1, .null, 0, 0), (152, .iload 7, 2, .null, 0, 0), (154, .iconst 1, 1, .int 1, 0, 0), (155, .iadd, 1, .null, 0, 0), (156, .sipush 14000, 3, .int 14000, 0, 0), (159, .invokevirtual 98, 3, .null, 68, 0), (162, .iconst 1, 1, .int 1, 0, 0), (163, .iadd, 1, .null, 0, 0), (164, .iload 6, 2, .null, 0, 0), (166, .iconst 1, 1, .int 1, 0, 0), (167, .iadd, 1, .null, 0, 0), (168, .invokevirtual 168, 3, .null, 85, 0), (171, .goto 16, 3, .null, 187, 0), (174, .iload 4, 2, .null, 0, 0), (176, .iconst 3, 1, .int 3, 0, 0), (177, .if_icmp .ne 10, 3, .null, 187, 0), (180, .aload_n 0, 1, .null, 0, 0), (181, .iload_n 3, 1, .null, 0, 0), (182, .iconst 0, 1, .int 0, 0, 0), (183, .iconst 0, 1, .int 0, 0, 0), (184, .invokevirtual 172, 3, .null, 87, 0), (187, .goto 10, 3, .null, 197, 0), (190, .aload_n 0, 1, .null, 0, 0), (191, .iload_n 3, 1, .null, 0, 0), (192, .iconst 0, 1, .int 0, 0, 0), (193, .iconst 0, 1, .int 0, 0, 0), (194, .invokevirtual 172, 3, .null, 87, 0), (197, .goto (-176), 3, .null, 21, 0), (200, .aload_n 0, 1, .null, 0, 0), (201, .getfield 162, 3, .null, 6, 10), (204, .sipush 500, 3, .int 500, 0, 0), (207, .if_icmp .le 9, 3, .null, 216, 0), (210, .sipush 501, 3, .int 501, 0, 0), (213, .goto 7, 3, .null, 220, 0), (216, .aload_n 0, 1, .null, 0, 0), (217, .getfield 162, 3, .null, 6, 10), (220, .ireturn, 1, .null, 0, 0)]
def am_r85 : List (Nat × am_R) := [(0, .aload_n 0, 1, .null, 0, 0), (1, .getfield 38, 3, .null, 6, 14), (4, .aload_n 0, 1, .null, 0, 0), (5, .getfield 159, 3, .null, 6, 13), (8, .iload_n 1, 1, .null, 0, 0), (9, .iastore, 1, .null, 0, 0), (10, .aload_n 0, 1, .null, 0, 0), (11, .getfield 41, 3, .null, 6, 15), (14, .aload_n 0, 1, .null, 0, 0), (15, .getfield 159, 3, .null, 6, 13), (18, .iload_n 2, 1, .null, 0, 0), (19, .iastore, 1, .null, 0, 0), (20, .aload_n 0, 1, .null, 0, 0), (21, .getfield 44, 3, .null, 6, 16), (24, .aload_n 0, 1, .null, 0, 0), (25, .getfield 159, 3, .null, 6, 13), (28, .iload_n 3, 1, .null, 0, 0), (29, .iastore, 1, .null, 0, 0), (30, .aload_n 0, 1, .null, 0, 0), (31, .dup, 1, .null, 0, 0), (32, .getfield 159, 3, .null, 6, 13), (35, .iconst 1, 1, .int 1, 0, 0), (36, .iadd, 1, .null, 0, 0), (37, .putfield 159, 3, .null, 6, 13), (40, .return_, 1, .null, 0, 0)]
def am_r86 : List (Nat × am_R) := [(0, .aload_n 0, 1, .null, 0, 0), (1, .iload_n 1, 1, .null, 0, 0), (2, .iload_n 2, 1, .null, 0, 0), (3, .iload_n 3, 1, .null, 0, 0), (4, .invokevirtual 172, 3, .null, 87, 0), (7, .iload_n 2, 1, .null, 0, 0), (8, .iconst 4, 1, .int 4, 0, 0), (9, .if_icmp .ne 8, 3, .null, 17, 0), (12, .iload 4, 2, .null, 0, 0), (14, .ifCond .ne 4, 3, .null, 18, 0), (17, .return_, 1, .null, 0, 0), (18, .iload_n 3, 1, .null, 0, 0), (19, .aload_n 0, 1, .null, 0, 0), (20, .iload_n 3, 1, .null, 0, 0), (21, .invokevirtual 91, 3, .null, 64, 0), (24, .iadd, 1, .null, 0, 0), (25, .iconst 1, 1, .int 1, 0, 0), (26, .isub, 1, .null, 0, 0), (27, .istore 5, 2, .null, 0, 0), (29, .iload_n 3, 1, .null, 0, 0), (30, .iconst 4, 1, .int 4, 0, 0), (31, .iadd, 1, .null, 0, 0), (32, .istore 6, 2, .null, 0, 0), (34, .iload 6, 2, .null, 0, 0), (36, .iload 5, 2, .null, 0, 0), (38, .if_icmp .ge 53, 3, .null, 91, 0), (41, .aload_n 0, 1, .null, 0, 0), (42, .iload_n 1, 1, .null, 0, 0), (43, .aload_n 0, 1, .null, 0, 0), (44, .iload 6, 2, .null, 0, 0), (46, .invokevirtual 70, 3, .null, 65, 0), (49, .aload_n 0, 1, .null, 0, 0), (50, .iload 6, 2, .null, 0, 0), (52, .iconst 1, 1, .int 1, 0, 0), (53, .iadd, 1, .null, 0, 0), (54, .iload 5, 2, .null, 0, 0), (56, .invokevirtual 98, 3, .null, 68, 0), (59, .iconst 1, 1, .int 1, 0, 0), (60, .iadd, 1, .null, 0, 0), (61, .invokevirtual 172, 3, .null, 87, 0), (64, .aload_n 0, 1, .null, 0, 0), (65, .aload_n 0, 1, .null, 0, 0), (66, .iload 6, 2, .null, 0, 0), (68, .invokevirtual 70, 3, .null, 65, 0), (71, .aload_n 0, 1, .null, 0, 0), (72, .iload 6, 2, .null, 0, 0), (74, .iconst 1, 1, .int 1, 0, 0), (75, .iadd, 1, .null, 0, 0), (76, .iload 5, 2, .null, 0, 0), (78, .invokevirtual 98, 3, .null, 68, 0), (81, .iconst 1, 1, .int 1, 0, 0), (82, .iadd, 1, .null, 0, 0), (83, .invokevirtual 101, 3, .null, 74, 0), (86, .istore 6, 2, .null, 0, 0), (88, .goto (-54), 3, .null, 34, 0), (91, .return_, 1, .null, 0, 0)]
def am_r87 : List (Nat × am_R) := [(0, .aload_n 0, 1, .null, 0, 0), (1, .getfield 162, 3, .null, 6, 10), (4, .sipush 500, 3, .int 500, 0, 0), (7, .if_icmp .ge 27, 3, .null, 34, 0), (10, .aload_n 0, 1, .null, 0, 0), (11, .getfield 32, 3, .null, 6, 11), (14, .iload_n 1, 1, .null, 0, 0), (15, .aload_n 0, 1, .null, 0, 0), (16, .getfield 162, 3, .null, 6, 10), (19, .iadd, 1, .null, 0, 0), (20, .iload_n 2, 1, .null, 0, 0), (21, .iastore, 1, .null, 0, 0), (22, .aload_n 0, 1, .null, 0, 0), (23, .getfield 35, 3, .null, 6, 12), (26, .iload_n 1, 1, .null, 0, 0), (27, .aload_n 0, 1, .null, 0, 0), (28, .getfield 162, 3, .null, 6, 10), (31, .iadd, 1, .null, 0, 0), (32, .iload_n 3, 1, .null, 0, 0), (33, .iastore, 1, .null, 0, 0), (34, .aload_n 0, 1, .null, 0, 0), (35, .dup, 1, .null, 0, 0), (36, .getfield 162, 3, .null, 6, 10), (39, .iconst 1, 1, .int 1, 0, 0), (40, .iadd, 1, .null, 0, 0), (41, .putfield 162, 3, .null, 6, 10), (44, .return_, 1, .null, 0, 0)]
def am_r88 : List (Nat × am_R) := [(0, .iload_n 1, 1, .null, 0, 0), (1, .aload_n 0, 1, .null, 0, 0), (2, .iload_n 1, 1, .null, 0, 0), (3, .invokevirtual 91, 3, .null, 64, 0), (6, .iadd, 1, .null, 0, 0), (7, .iconst 1, 1, .int 1, 0, 0), (8, .isub, 1, .null, 0, 0), (9, .istore_n 3, 1, .null, 0, 0), (10, .iload_n 1, 1, .null, 0, 0), (11, .iconst 4, 1, .int 4, 0, 0), (12, .iadd, 1, .null, 0, 0), (13, .istore 4, 2, .null, 0, 0), (15, .iload 4, 2, .null, 0, 0), (17, .iload_n 3, 1, .null, 0, 0), (18, .if_icmp .ge 44, 3, .null, 62, 0), (21, .aload_n 0, 1, .null, 0, 0), (22, .iload 4, 2, .null, 0, 0), (24, .iconst 1, 1, .int 1, 0, 0), (25, .iadd, 1, .null, 0, 0), (26, .iload_n 2, 1, .null, 0, 0), (27, .invokevirtual 165, 3, .null, 89, 0), (30, .ifCond .eq 6, 3, .null, 36, 0), (33, .iload 4, 2, .null, 0, 0), (35, .ireturn, 1, .null, 0, 0), (36, .aload_n 0, 1, .null, 0, 0), (37, .aload_n 0, 1, .null, 0, 0), (38, .iload 4, 2, .null, 0, 0), (40, .invokevirtual 70, 3, .null, 65, 0), (43, .aload_n 0, 1, .null, 0, 0), (44, .iload 4, 2, .null, 0, 0), (46, .iconst 1, 1, .int 1, 0, 0), (47, .iadd, 1, .null, 0, 0), (48, .iload_n 3, 1, .null, 0, 0), (49, .invokevirtual 98, 3, .null, 68, 0), (52, .iconst 1, 1, .int 1, 0, 0), (53, .iadd, 1, .null, 0, 0), (54, .invokevirtual 101, 3, .null, 74, 0), (57, .istore 4, 2, .null, 0, 0), (59, .goto (-44), 3, .null, 15, 0), (62, .iconst (-1), 1, .int (-1), 0, 0), (63, .ireturn, 1, .null, 0, 0)]
def am_r89 : List (Nat × am_R) := [(0, .iconst 0, 1, .int 0, 0, 0), (1, .istore_n 3, 1, .null, 0, 0), (2, .aload_n 0, 1, .null, 0, 0), (3, .getfield 7, 3, .null, 6, 1), (6, .iload_n 1, 1, .null, 0, 0), (7, .iload_n 3, 1, .null, 0, 0), (8, .iadd, 1, .null, 0, 0), (9, .baload, 1, .null, 0, 0), (10, .aload_n 0, 1, .null, 0, 0), (11, .getfield 17, 3, .null, 6, 5), (14, .aload_n 0, 1, .null, 0, 0), (15, .getfield 13, 3, .null, 6, 4), (18, .iload_n 2, 1, .null, 0, 0), (19, .iaload, 1, .null, 0, 0), (20, .iload_n 3, 1, .null, 0, 0), (21, .iadd, 1, .null, 0, 0), (22, .baload, 1, .null, 0, 0), (23, .if_icmp .ne 20, 3, .null, 43, 0), (26, .aload_n 0, 1, .null, 0, 0), (27, .getfield 7, 3, .null, 6, 1), (30, .iload_n 1, 1, .null, 0, 0), (31, .iload_n 3, 1, .null, 0, 0), (32, .iadd, 1, .null, 0, 0), (33, .baload, 1, .null, 0, 0), (34, .ifCond .eq 9, 3, .null, 43, 0), (37, .iinc 3 1, 3, .int 1, 0, 0), (40, .goto (-38), 3, .null, 2, 0), (43, .aload_n 0, 1, .null, 0, 0), (44, .getfield 7, 3, .null, 6, 1), (47, .iload_n 1, 1, .null, 0, 0), (48, .iload_n 3, 1, .null, 0, 0), (49, .iadd, 1, .null, 0, 0), (50, .baload, 1, .null, 0, 0), (51, .aload_n 0, 1, .null, 0, 0), (52, .getfield 17, 3, .null, 6, 5), (55, .aload_n 0, 1, .null, 0, 0), (56, .getfield 13, 3, .null, 6, 4), (59, .iload_n 2, 1, .null, 0, 0), (60, .iaload, 1, .null, 0, 0), (61, .iload_n 3, 1, .null, 0, 0), (62, .iadd, 1, .null, 0, 0), (63, .baload, 1, .null, 0, 0), (64, .if_icmp .ne 7, 3, .null, 71, 0), (67, .iconst 1, 1, .int 1, 0, 0), (68, .goto 4, 3, .null, 72, 0), (71, .iconst 0, 1, .int 0, 0, 0), (72, .ireturn, 1, .null, 0, 0)]
def am_r90 : List (Nat × am_R) := [(0, .iload_n 1, 1, .null, 0, 0), (1, .aload_n 0, 1, .null, 0, 0), (2, .iload_n 1, 1, .null, 0, 0), (3, .invokevirtual 91, 3, .null, 64, 0), (6, .iadd, 1, .null, 0, 0), (7, .iconst 1, 1, .int 1, 0, 0), (8, .isub, 1, .null, 0, 0), (9, .istore_n 3, 1, .null, 0, 0), (10, .aload_n 0, 1, .null, 0, 0), (11, .getfield 159, 3, .null, 6, 13), (14, .istore 4, 2, .null, 0, 0), (16, .iload_n 1, 1, .null, 0, 0), (17, .iconst 4, 1, .int 4, 0, 0), (18, .iadd, 1, .null, 0, 0), (19, .istore 5, 2, .null, 0, 0), (21, .iload 5, 2, .null, 0, 0), (23, .iload_n 3, 1, .null, 0, 0), (24, .if_icmp .ge 56, 3, .null, 80, 0), (27, .aload_n 0, 1, .null, 0, 0), (28, .iload 5, 2, .null, 0, 0), (30, .invokevirtual 70, 3, .null, 65, 0), (33, .iconst 3, 1, .int 3, 0, 0), (34, .if_icmp .ne 20, 3, .null, 54, 0), (37, .aload_n 0, 1, .null, 0, 0), (38, .iconst 3, 1, .int 3, 0, 0), (39, .aload_n 0, 1, .null, 0, 0), (40, .iload 5, 2, .null, 0, 0), (42, .iconst 1, 1, .int 1, 0, 0), (43, .iadd, 1, .null, 0, 0), (44, .iload_n 3, 1, .null, 0, 0), (45, .invokevirtual 98, 3, .null, 68, 0), (48, .iconst 1, 1, .int 1, 0, 0), (49, .iadd, 1, .null, 0, 0), (50, .iload_n 2, 1, .null, 0, 0), (51, .invokevirtual 168, 3, .null, 85, 0), (54, .aload_n 0, 1, .null, 0, 0), (55, .aload_n 0, 1, .null, 0, 0), (56, .iload 5, 2, .null, 0, 0), (58, .invokevirtual 70, 3, .null, 65, 0), (61, .aload_n 0, 1, .null, 0, 0), (62, .iload 5, 2, .null, 0, 0), (64, .iconst 1, 1, .int 1, 0, 0), (65, .iadd, 1, .null, 0, 0), (66, .iload_n 3, 1, .null, 0, 0), (67, .invokevirtual 98, 3, .null, 68, 0), (70, .iconst 1, 1, .int 1, 0, 0), (71, .iadd, 1, .null, 0, 0), (72, .invokevirtual 101, 3, .null, 74, 0), (75, .istore 5, 2, .null, 0, 0), (77, .goto (-56), 3, .null, 21, 0), (80, .iload 4, 2, .null, 0, 0), (82, .istore 5, 2, .null, 0, 0), (84, .aload_n 0, 1, .null, 0, 0), (85, .getfield 159, 3, .null, 6, 13), (88, .iconst 1, 1, .int 1, 0, 0), (89, .isub, 1, .null, 0, 0), (90, .istore 6, 2, .null, 0, 0), (92, .iload 5, 2, .null, 0, 0), (94, .iload 6, 2, .null, 0, 0), (96, .if_icmp .ge 44, 3, .null, 140, 0), (99, .aload_n 0, 1, .null, 0, 0), (100, .getfield 41, 3, .null, 6, 15), (103, .iload 5, 2, .null, 0, 0), (105, .iaload, 1, .null, 0, 0), (106, .istore 7, 2, .null, 0, 0), (108, .aload_n 0, 1, .null, 0, 0), (109, .getfield 41, 3, .null, 6, 15), (112, .iload 5, 2, .null, 0, 0), (114, .aload_n 0, 1, .null, 0, 0), (115, .getfield 41, 3, .null, 6, 15), (118, .iload 6, 2, .null, 0, 0), (120, .iaload, 1, .null, 0, 0), (121, .iastore, 1, .null, 0, 0), (122, .aload_n 0, 1, .null, 0, 0), (123, .getfield 41, 3, .null, 6, 15), (126, .iload 6, 2, .null, 0, 0), (128, .iload 7, 2, .null, 0, 0), (130, .iastore, 1, .null, 0, 0), (131, .iinc 5 1, 3, .int 1, 0, 0), (134, .iinc 6 (-1), 3, .int (-1), 0, 0), (137, .goto (-45), 3, .null, 92, 0), (140, .return_, 1, .null, 0, 0)]
def am_r91 : List (Nat × am_R) := [(0, .aload_n 0, 1, .null, 0, 0), (1, .iload_n 1, 1, .null, 0, 0), (2, .iload_n 2, 1, .null, 0, 0), (3, .invokevirtual 190, 3, .null, 92, 0), (6, .ifCond .eq 12, 3, .null, 18, 0), (9, .iload_n 3, 1, .null, 0, 0), (10, .ifCond .lt 8, 3, .null, 18, 0), (13, .iload_n 3, 1, .null, 0, 0), (14, .iconst 3, 1, .int 3, 0, 0), (15, .if_icmp .le 7, 3, .null, 22, 0), (18, .ldc2_w 193, 3, .long (-1), 0, 0), (21, .lreturn, 1, .null, 0, 0), (22, .aload_n 0, 1, .null, 0, 0), (23, .getfield 23, 3, .null, 6, 7), (26, .sipush 500, 3, .int 500, 0, 0), (29, .iload_n 1, 1, .null, 0, 0), (30, .imul, 1, .null, 0, 0), (31, .iload_n 2, 1, .null, 0, 0), (32, .iadd, 1, .null, 0, 0), (33, .iaload, 1, .null, 0, 0), (34, .istore 4, 2, .null, 0, 0), (36, .aload_n 0, 1, .null, 0, 0), (37, .getfield 26, 3, .null, 6, 8), (40, .sipush 500, 3, .int 500, 0, 0), (43, .iload_n 1, 1, .null, 0, 0), (44, .imul, 1, .null, 0, 0), (45, .iload_n 2, 1, .null, 0, 0), (46, .iadd, 1, .null, 0, 0), (47, .iaload, 1, .null, 0, 0), (48, .istore 5, 2, .null, 0, 0), (50, .iload_n 3, 1, .null, 0, 0), (51, .ifCond .ne 7, 3, .null, 58, 0), (54, .iload 4, 2, .null, 0, 0), (56, .i2l, 1, .null, 0, 0), (57, .lreturn, 1, .null, 0, 0), (58, .iload_n 3, 1, .null, 0, 0), (59, .iconst 1, 1, .int 1, 0, 0), (60, .if_icmp .ne 10, 3, .null, 70, 0), (63, .iload 4, 2, .null, 0, 0), (65, .invokestatic 142, 3, .null, 80, 0), (68, .i2l, 1, .null, 0, 0), (69, .lreturn, 1, .null, 0, 0), (70, .iload_n 3, 1, .null, 0, 0), (71, .iconst 2, 1, .int 2, 0, 0), (72, .if_icmp .ne 37, 3, .null, 109, 0), (75, .iload 4, 2, .null, 0, 0), (77, .bipush 16, 2, .int 16, 0, 0), (79, .if_icmp .eq 17, 3, .null, 96, 0), (82, .iload 4, 2, .null, 0, 0), (84, .bipush 18, 2, .int 18, 0, 0), (86, .if_icmp .eq 10, 3, .null, 96, 0), (89, .iload 4, 2, .null, 0, 0), (91, .bipush 8, 2, .int 8, 0, 0), (93, .if_icmp .ne 14, 3, .null, 107, 0), (96, .aload_n 0, 1, .null, 0, 0), (97, .iload 4, 2, .null, 0, 0), (99, .iload 5, 2, .null, 0, 0), (101, .invokevirtual 145, 3, .null, 81, 0), (104, .goto 4, 3, .null, 108, 0), (107, .lconst 0, 1, .long 0, 0, 0), (108, .lreturn, 1, .null, 0, 0), (109, .iload 4, 2, .null, 0, 0), (111, .iconst 2, 1, .int 2, 0, 0), (112, .if_icmp .ne 15, 3, .null, 127, 0), (115, .aload_n 0, 1, .null, 0, 0), (116, .iload 5, 2, .null, 0, 0), (118, .invokevirtual 91, 3, .null, 64, 0), (121, .iconst 1, 1, .int 1, 0, 0), (122, .isub, 1, .null, 0, 0), (123, .i2l, 1, .null, 0, 0), (124, .goto 26, 3, .null, 150, 0), (127, .iload 4, 2, .null, 0, 0), (129, .iconst 3, 1, .int 3, 0, 0), (130, .if_icmp .eq 9, 3, .null, 139, 0), (133, .iload 4, 2, .null, 0, 0), (135, .iconst 4, 1, .int 4, 0, 0), (136, .if_icmp .ne 13, 3, .null, 149, 0), (139, .aload_n 0, 1, .null, 0, 0), (140, .iload 5, 2, .null, 0, 0), (142, .invokevirtual 195, 3, .null, 93, 0), (145, .i2l, 1, .null, 0, 0), (146, .goto 4, 3, .null, 150, 0), (149, .lconst 0, 1, .long 0, 0, 0), (150, .lreturn, 1, .null, 0, 0)]
def am_r92 : List (Nat × am_R) := [(0, .iload_n 1, 1, .null, 0, 0), (1, .ifCond .lt 26, 3, .null, 27, 0), (4, .iload_n 1, 1, .null, 0, 0), (5, .iconst 2, 1, .int 2, 0, 0), (6, .if_icmp .ge 21, 3, .null, 27, 0), (9, .iload_n 2, 1, .null, 0, 0), (10, .ifCond .lt 17, 3, .null, 27, 0), (13, .iload_n 2, 1, .null, 0, 0), (14, .aload_n 0, 1, .null, 0, 0), (15, .getfield 20, 3, .null, 6, 6), (18, .iload_n 1, 1, .null, 0, 0), (19, .iaload, 1, .null, 0, 0), (20, .if_icmp .ge 7, 3, .null, 27, 0), (23, .iconst 1, 1, .int 1, 0, 0), (24, .goto 4, 3, .null, 28, 0), (27, .iconst 0, 1, .int 0, 0, 0), (28, .ireturn, 1, .null, 0, 0)]
def am_r93 : List (Nat × am_R) := [(0, .iconst 0, 1, .int 0, 0, 0), (1, .istore_n 2, 1, .null, 0, 0), (2, .iload_n 1, 1, .null, 0, 0), (3, .aload_n 0, 1, .null, 0, 0), (4, .iload_n 1, 1, .null, 0, 0), (5, .invokevirtual 91, 3, .null, 64, 0), (8, .iadd, 1, .null, 0, 0), (9, .iconst 1, 1, .int 1, 0, 0), (10, .isub, 1, .null, 0, 0), (11, .istore_n 3, 1, .null, 0, 0), (12, .iload_n 1, 1, .null, 0, 0), (13, .iconst 4, 1, .int 4, 0, 0), (14, .iadd, 1, .null, 0, 0), (15, .istore 4, 2, .null, 0, 0), (17, .iload 4, 2, .null, 0, 0), (19, .iload_n 3, 1, .null, 0, 0), (20, .if_icmp .ge 32, 3, .null, 52, 0), (23, .iinc 2 1, 3, .int 1, 0, 0), (26, .aload_n 0, 1, .null, 0, 0), (27, .aload_n 0, 1, .null, 0, 0), (28, .iload 4, 2, .null, 0, 0), (30, .invokevirtual 70, 3, .null, 65, 0), (33, .aload_n 0, 1, .null, 0, 0), (34, .iload 4, 2, .null, 0, 0), (36, .iconst 1, 1, .int 1, 0, 0), (37, .iadd, 1, .null, 0, 0), (38, .iload_n 3, 1, .null, 0, 0), (39, .invokevirtual 98, 3, .null, 68, 0), (42, .iconst 1, 1, .int 1, 0, 0), (43, .iadd, 1, .null, 0, 0), (44, .invokevirtual 101, 3, .null, 74, 0), (47, .istore 4, 2, .null, 0, 0), (49, .goto (-32), 3, .null, 17, 0), (52, .iload_n 2, 1, .null, 0, 0), (53, .ireturn, 1, .null, 0, 0)]
def am_r94 : List (Nat × am_R) := [(0, .aload_n 0, 1, .null, 0, 0), (1, .iload_n 1, 1, .null, 0, 0), (2, .iload_n 2, 1, .null, 0, 0), (3, .invokevirtual 190, 3, .null, 92, 0), (6, .ifCond .eq 19, 3, .null, 25, 0), (9, .aload_n 0, 1, .null, 0, 0), (10, .getfield 23, 3, .null, 6, 7), (13, .sipush 500, 3, .int 500, 0, 0), (16, .iload_n 1, 1, .null, 0, 0), (17, .imul, 1, .null, 0, 0), (18, .iload_n 2, 1, .null, 0, 0), (19, .iadd, 1, .null, 0, 0), (20, .iaload, 1, .null, 0, 0), (21, .iconst 2, 1, .int 2, 0, 0), (22, .if_icmp .eq 5, 3, .null, 27, 0), (25, .iconst (-1), 1, .int (-1), 0, 0), (26, .ireturn, 1, .null, 0, 0), (27, .aload_n 0, 1, .null, 0, 0), (28, .getfield 26, 3, .null, 6, 8), (31, .sipush 500, 3, .int 500, 0, 0), (34, .iload_n 1, 1, .null, 0, 0), (35, .imul, 1, .null, 0, 0), (36, .iload_n 2, 1, .null, 0, 0), (37, .iadd, 1, .null, 0, 0), (38, .iaload, 1, .null, 0, 0), (39, .istore 4, 2, .null, 0, 0), (41, .iload_n 3, 1, .null, 0, 0), (42, .ifCond .lt 15, 3, .null, 57, 0), (45, .iload_n 3, 1, .null, 0, 0), (46, .aload_n 0, 1, .null, 0, 0), (47, .iload 4, 2, .null, 0, 0), (49, .invokevirtual 91, 3, .null, 64, 0), (52, .iconst 1, 1, .int 1, 0, 0), (53, .isub, 1, .null, 0, 0), (54, .if_icmp .lt 7, 3, .null, 61, 0), (57, .iconst (-1), 1, .int (-1), 0, 0), (58, .goto 13, 3, .null, 71, 0), (61, .aload_n 0, 1, .null, 0, 0), (62, .iload 4, 2, .null, 0, 0), (64, .iconst 4, 1, .int 4, 0, 0), (65, .iadd, 1, .null, 0, 0), (66, .iload_n 3, 1, .null, 0, 0), (67, .iadd, 1, .null, 0, 0), (68, .invokevirtual 70, 3, .null, 65, 0), (71, .ireturn, 1, .null, 0, 0)]
def am_r95 : List (Nat × am_R) := [(0, .aload_n 0, 1, .null, 0, 0), (1, .iconst 0, 1, .int 0, 0, 0), (2, .iload_n 1, 1, .null, 0, 0), (3, .invokevirtual 190, 3, .null, 92, 0), (6, .ifCond .eq 12, 3, .null, 18, 0), (9, .aload_n 0, 1, .null, 0, 0), (10, .iconst 1, 1, .int 1, 0, 0), (11, .iload_n 2, 1, .null, 0, 0), (12, .invokevirtual 190, 3, .null, 92, 0), (15, .ifCond .ne 6, 3, .null, 21, 0), (18, .bipush (-2), 2, .int (-2), 0, 0), (20, .ireturn, 1, .null, 0, 0), (21, .aload_n 0, 1, .null, 0, 0), (22, .aload_n 0, 1, .null, 0, 0), (23, .getfield 23, 3, .null, 6, 7), (26, .iload_n 1, 1, .null, 0, 0), (27, .iaload, 1, .null, 0, 0), (28, .aload_n 0, 1, .null, 0, 0), (29, .getfield 26, 3, .null, 6, 8), (32, .iload_n 1, 1, .null, 0, 0), (33, .iaload, 1, .null, 0, 0), (34, .aload_n 0, 1, .null, 0, 0), (35, .getfield 23, 3, .null, 6, 7), (38, .sipush 500, 3, .int 500, 0, 0), (41, .iload_n 2, 1, .null, 0, 0), (42, .iadd, 1, .null, 0, 0), (43, .iaload, 1, .null, 0, 0), (44, .aload_n 0, 1, .null, 0, 0), (45, .getfield 26, 3, .null, 6, 8), (48, .sipush 500, 3, .int 500, 0, 0), (51, .iload_n 2, 1, .null, 0, 0), (52, .iadd, 1, .null, 0, 0), (53, .iaload, 1, .null, 0, 0), (54, .invokevirtual 156, 3, .null, 78, 0), (57, .ireturn, 1, .null, 0, 0)]
def am_r96 : List (Nat × am_R) := [(0, .iload_n 1, 1, .null, 0, 0), (1, .ifCond .lt 8, 3, .null, 9, 0), (4, .iload_n 1, 1, .null, 0, 0), (5, .iconst 1, 1, .int 1, 0, 0), (6, .if_icmp .le 5, 3, .null, 11, 0), (9, .iconst (-1), 1, .int (-1), 0, 0), (10, .ireturn, 1, .null, 0, 0), (11, .sipush 500, 3, .int 500, 0, 0), (14, .iload_n 1, 1, .null, 0, 0), (15, .imul, 1, .null, 0, 0), (16, .istore_n 2, 1, .null, 0, 0), (17, .aload_n 0, 1, .null, 0, 0), (18, .getfield 20, 3, .null, 6, 6), (21, .iload_n 1, 1, .null, 0, 0), (22, .iaload, 1, .null, 0, 0), (23, .istore_n 3, 1, .null, 0, 0), (24, .iconst 1, 1, .int 1, 0, 0), (25, .istore 4, 2, .null, 0, 0), (27, .iload 4, 2, .null, 0, 0), (29, .iload_n 3, 1, .null, 0, 0), (30, .if_icmp .ge 183, 3, .null, 213, 0), (33, .aload_n 0, 1, .null, 0, 0), (34, .getfield 23, 3, .null, 6, 7), (37, .iload_n 2, 1, .null, 0, 0), (38, .iload 4, 2, .null, 0, 0), (40, .iadd, 1, .null, 0, 0), (41, .iaload, 1, .null, 0, 0), (42, .istore 5, 2, .null, 0, 0), (44, .aload_n 0, 1, .null, 0, 0), (45, .getfield 26, 3, .null, 6, 8), (48, .iload_n 2, 1, .null, 0, 0), (49, .iload 4, 2, .null, 0, 0), (51, .iadd, 1, .null, 0, 0), (52, .iaload, 1, .null, 0, 0), (53, .istore 6, 2, .null, 0, 0), (55, .aload_n 0, 1, .null, 0, 0), (56, .getfield 29, 3, .null, 6, 9), (59, .iload_n 2, 1, .null, 0, 0), (60, .iload 4, 2, .null, 0, 0), (62, .iadd, 1, .null, 0, 0), (63, .iaload, 1, .null, 0, 0), (64, .istore 7, 2, .null, 0, 0), (66, .iload 4, 2, .null, 0, 0), (68, .istore 8, 2, .null, 0, 0), (70, .iload 8, 2, .null, 0, 0), (72, .ifCond .le 102, 3, .null, 174, 0), (75, .aload_n 0, 1, .null, 0, 0), (76, .aload_n 0, 1, .null, 0, 0), (77, .getfield 23, 3, .null, 6, 7), (80, .iload_n 2, 1, .null, 0, 0), (81, .iload 8, 2, .null, 0, 0), (83, .iadd, 1, .null, 0, 0), (84, .iconst 1, 1, .int 1, 0, 0), (85, .isub, 1, .null, 0, 0), (86, .iaload, 1, .null, 0, 0), (87, .aload_n 0, 1, .null, 0, 0), (88, .getfield 26, 3, .null, 6, 8), (91, .iload_n 2, 1, .null, 0, 0), (92, .iload 8, 2, .null, 0, 0), (94, .iadd, 1, .null, 0, 0), (95, .iconst 1, 1, .int 1, 0, 0), (96, .isub, 1, .null, 0, 0), (97, .iaload, 1, .null, 0, 0), (98, .iload 5, 2, .null, 0, 0), (100, .iload 6, 2, .null, 0, 0), (102, .invokevirtual 156, 3, .null, 78, 0), (105, .ifCond .le 69, 3, .null, 174, 0), (108, .aload_n 0, 1, .null, 0, 0), (109, .getfield 23, 3, .null, 6, 7), (112, .iload_n 2, 1, .null, 0, 0), (113, .iload 8, 2, .null, 0, 0), (115, .iadd, 1, .null, 0, 0), (116, .aload_n 0, 1, .null, 0, 0), (117, .getfield 23, 3, .null, 6, 7), (120, .iload_n 2, 1, .null, 0, 0), (121, .iload 8, 2, .null, 0, 0), (123, .iadd, 1, .null, 0, 0), (124, .iconst 1, 1, .int 1, 0, 0), (125, .isub, 1, .null, 0, 0), (126, .iaload, 1, .null, 0, 0), (127, .iastore, 1, .null, 0, 0), (128, .aload_n 0, 1, .null, 0, 0), (129, .getfield 26, 3, .null, 6, 8), (132, .iload_n 2, 1, .null, 0, 0), (133, .iload 8, 2, .null, 0, 0), (135, .iadd, 1, .null, 0, 0), (136, .aload_n 0, 1, .null, 0, 0), (137, .getfield 26, 3, .null, 6, 8), (140, .iload_n 2, 1, .null, 0, 0), (141, .iload 8, 2, .null, 0, 0), (143, .iadd, 1, .null, 0, 0), (144, .iconst 1, 1, .int 1, 0, 0), (145, .isub, 1, .null, 0, 0), (146, .iaload, 1, .null, 0, 0), (147, .iastore, 1, .null, 0, 0), (148, .aload_n 0, 1, .null, 0, 0), (149, .getfield 29, 3, .null, 6, 9), (152, .iload_n 2, 1, .null, 0, 0), (153, .iload 8, 2, .null, 0, 0), (155, .iadd, 1, .null, 0, 0), (156, .aload_n 0, 1, .null, 0, 0), (157, .getfield 29, 3, .null, 6, 9), (160, .iload_n 2, 1, .null, 0, 0), (161, .iload 8, 2, .null, 0, 0), (163, .iadd, 1, .null, 0, 0), (164, .iconst 1, 1, .int 1, 0, 0), (165, .isub, 1, .null, 0, 0), (166, .iaload, 1, .null, 0, 0), (167, .iastore, 1, .null, 0, 0), (168, .iinc 8 (-1), 3, .int (-1), 0, 0), (171, .goto (-101), 3, .null, 70, 0), (174, .aload_n 0, 1, .null, 0, 0), (175, .getfield 23, 3, .null, 6, 7), (178, .iload_n 2, 1, .null, 0, 0), (179, .iload 8, 2, .null, 0, 0), (181, .iadd, 1, .null, 0, 0), (182, .iload 5, 2, .null, 0, 0), (184, .iastore, 1, .null, 0, 0), (185, .aload_n 0, 1, .null, 0, 0), (186, .getfield 26, 3, .null, 6, 8), (189, .iload_n 2, 1, .null, 0, 0), (190, .iload 8, 2, .null, 0, 0), (192, .iadd, 1, .null, 0, 0), (193, .iload 6, 2, .null, 0, 0), (195, .iastore, 1, .null, 0, 0), (196, .aload_n 0, 1, .null, 0, 0), (197, .getfield 29, 3, .null, 6, 9), (200, .iload_n 2, 1, .null, 0, 0), (201, .iload 8, 2, .null, 0, 0), (203, .iadd, 1, .null, 0, 0), (204, .iload 7, 2, .null, 0, 0), (206, .iastore, 1, .null, 0, 0), (207, .iinc 4 1, 3, .int 1, 0, 0), (210, .goto (-183), 3, .null, 27, 0), (213, .iload_n 3, 1, .null, 0, 0), (214, .ifCond .le 7, 3, .null, 221, 0), (217, .iconst 1, 1, .int 1, 0, 0), (218, .goto 4, 3, .null, 222, 0), (221, .iconst 0, 1, .int 0, 0, 0), (222, .istore 4, 2, .null, 0, 0), (224, .iconst 1, 1, .int 1, 0, 0), (225, .istore 5, 2, .null, 0, 0), (227, .iload 5, 2, .null, 0, 0), (229, .iload_n 3, 1, .null, 0, 0), (230, .if_icmp .ge 66, 3, .null, 296, 0), (233, .iload 4, 2, .null, 0, 0), (235, .aload_n 0, 1, .null, 0, 0), (236, .aload_n 0, 1, .null, 0, 0), (237, .getfield 23, 3, .null, 6, 7), (240, .iload_n 2, 1, .null, 0, 0), (241, .iload 5, 2, .null, 0, 0), (243, .iadd, 1, .null, 0, 0), (244, .iconst 1, 1, .int 1, 0, 0), (245, .isub, 1, .null, 0, 0), (246, .iaload, 1, .null, 0, 0), (247, .aload_n 0, 1, .null, 0, 0), (248, .getfield 26, 3, .null, 6, 8), (251, .iload_n 2, 1, .null, 0, 0), (252, .iload 5, 2, .null, 0, 0), (254, .iadd, 1, .null, 0, 0), (255, .iconst 1, 1, .int 1, 0, 0), (256, .isub, 1, .null, 0, 0), (257, .iaload, 1, .null, 0, 0), (258, .aload_n 0, 1, .null, 0, 0), (259, .getfield 23, 3, .null, 6, 7), (262, .iload_n 2, 1, .null, 0, 0), (263, .iload 5, 2, .null, 0, 0), (265, .iadd, 1, .null, 0, 0), (266, .iaload, 1, .null, 0, 0), (267, .aload_n 0, 1, .null, 0, 0), (268, .getfield 26, 3, .null, 6, 8), (271, .iload_n 2, 1, .null, 0, 0), (272, .iload 5, 2, .null, 0, 0), (274, .iadd, 1, .null, 0, 0), (275, .iaload, 1, .null, 0, 0), (276, .invokevirtual 156, 3, .null, 78, 0), (279, .ifCond .eq 7, 3, .null, 286, 0), (282, .iconst 1, 1, .int 1, 0, 0), (283, .goto 4, 3, .null, 287, 0), (286, .iconst 0, 1, .int 0, 0, 0), (287, .iadd, 1, .null, 0, 0), (288, .istore 4, 2, .null, 0, 0), (290, .iinc 5 1, 3, .int 1, 0, 0), (293, .goto (-66), 3, .null, 227, 0), (296, .iload 4, 2, .null, 0, 0), (298, .ireturn, 1, .null, 0, 0)]
def am_r97 : List (Nat × am_R) := [(0, .aload_n 0, 1, .null, 0, 0), (1, .iload_n 1, 1, .null, 0, 0), (2, .iload_n 2, 1, .null, 0, 0), (3, .invokevirtual 190, 3, .null, 92, 0), (6, .ifCond .eq 18, 3, .null, 24, 0), (9, .aload_n 0, 1, .null, 0, 0), (10, .getfield 29, 3, .null, 6, 9), (13, .sipush 500, 3, .int 500, 0, 0), (16, .iload_n 1, 1, .null, 0, 0), (17, .imul, 1, .null, 0, 0), (18, .iload_n 2, 1, .null, 0, 0), (19, .iadd, 1, .null, 0, 0), (20, .iaload, 1, .null, 0, 0), (21, .goto 4, 3, .null, 25, 0), (24, .iconst (-1), 1, .int (-1), 0, 0), (25, .ireturn, 1, .null, 0, 0)]
def am_r98 : List (Nat × am_R) := [(0, .iload_n 1, 1, .null, 0, 0), (1, .invokestatic 128, 3, .null, 62, 0), (4, .ifCond .eq 17, 3, .null, 21, 0), (7, .iload_n 2, 1, .null, 0, 0), (8, .invokestatic 128, 3, .null, 62, 0), (11, .ifCond .eq 10, 3, .null, 21, 0), (14, .aload_n 0, 1, .null, 0, 0), (15, .getfield 135, 3, .null, 6, 3), (18, .ifCond .ne 5, 3, .null, 23, 0), (21, .iconst 0, 1, .int 0, 0, 0), (22, .ireturn, 1, .null, 0, 0), (23, .aload_n 0, 1, .null, 0, 0), (24, .iload_n 1, 1, .null, 0, 0), (25, .iload_n 3, 1, .null, 0, 0), (26, .iconst 0, 1, .int 0, 0, 0), (27, .invokevirtual 186, 3, .null, 84, 0), (30, .istore 4, 2, .null, 0, 0), (32, .aload_n 0, 1, .null, 0, 0), (33, .iload_n 2, 1, .null, 0, 0), (34, .iload_n 3, 1, .null, 0, 0), (35, .sipush 500, 3, .int 500, 0, 0), (38, .invokevirtual 186, 3, .null, 84, 0), (41, .istore 5, 2, .null, 0, 0), (43, .iload 4, 2, .null, 0, 0), (45, .sipush 500, 3, .int 500, 0, 0), (48, .if_icmp .gt 11, 3, .null, 59, 0), (51, .iload 5, 2, .null, 0, 0), (53, .sipush 500, 3, .int 500, 0, 0), (56, .if_icmp .le 5, 3, .null, 61, 0), (59, .iconst 0, 1, .int 0, 0, 0), (60, .ireturn, 1, .null, 0, 0), (61, .iconst 0, 1, .int 0, 0, 0), (62, .istore 6, 2, .null, 0, 0), (64, .iload 6, 2, .null, 0, 0), (66, .iload 4, 2, .null, 0, 0), (68, .if_icmp .ge 70, 3, .null, 138, 0), (71, .iconst 0, 1, .int 0, 0, 0), (72, .istore 7, 2, .null, 0, 0), (74, .iload 7, 2, .null, 0, 0), (76, .iload 5, 2, .null, 0, 0), (78, .if_icmp .ge 54, 3, .null, 132, 0), (81, .aload_n 0, 1, .null, 0, 0), (82, .aload_n 0, 1, .null, 0, 0), (83, .getfield 32, 3, .null, 6, 11), (86, .iload 6, 2, .null, 0, 0), (88, .iaload, 1, .null, 0, 0), (89, .aload_n 0, 1, .null, 0, 0), (90, .getfield 35, 3, .null, 6, 12), (93, .iload 6, 2, .null, 0, 0), (95, .iaload, 1, .null, 0, 0), (96, .aload_n 0, 1, .null, 0, 0), (97, .getfield 32, 3, .null, 6, 11), (100, .sipush 500, 3, .int 500, 0, 0), (103, .iload 7, 2, .null, 0, 0), (105, .iadd, 1, .null, 0, 0), (106, .iaload, 1, .null, 0, 0), (107, .aload_n 0, 1, .null, 0, 0), (108, .getfield 35, 3, .null, 6, 12), (111, .sipush 500, 3, .int 500, 0, 0), (114, .iload 7, 2, .null, 0, 0), (116, .iadd, 1, .null, 0, 0), (117, .iaload, 1, .null, 0, 0), (118, .invokevirtual 156, 3, .null, 78, 0), (121, .ifCond .ne 5, 3, .null, 126, 0), (124, .iconst 1, 1, .int 1, 0, 0), (125, .ireturn, 1, .null, 0, 0), (126, .iinc 7 1, 3, .int 1, 0, 0), (129, .goto (-55), 3, .null, 74, 0), (132, .iinc 6 1, 3, .int 1, 0, 0), (135, .goto (-71), 3, .null, 64, 0), (138, .iconst 0, 1, .int 0, 0, 0), (139, .ireturn, 1, .null, 0, 0)]
def am_r99 : List (Nat × am_R) := [(0, .iload_n 1, 1, .null, 0, 0), (1, .ifCond .ne 9, 3, .null, 10, 0), (4, .iload_n 2, 1, .null, 0, 0), (5, .aload_n 0, 1, .null, 0, 0), (6, .arraylength, 1, .null, 0, 0), (7, .if_icmp .eq 10, 3, .null, 17, 0), (10, .aload_n 0, 1, .null, 0, 0), (11, .iload_n 1, 1, .null, 0, 0), (12, .iload_n 2, 1, .null, 0, 0), (13, .invokestatic 339, 3, .null, 100, 0), (16, .areturn, 1, .null, 0, 0), (17, .aload_n 0, 1, .null, 0, 0), (18, .invokevirtual 310, 3, .null, 0, 6), (21, .checkcast 311, 3, .null, 0, 0), (24, .areturn, 1, .null, 0, 0)]
def am_r100 : List (Nat × am_R) := [(0, .iload_n 1, 1, .null, 0, 0), (1, .iload_n 2, 1, .null, 0, 0), (2, .invokestatic 343, 3, .null, 101, 0), (5, .iload_n 2, 1, .null, 0, 0), (6, .iload_n 1, 1, .null, 0, 0), (7, .isub, 1, .null, 0, 0), (8, .istore_n 3, 1, .null, 0, 0), (9, .iload_n 3, 1, .null, 0, 0), (10, .newarray .byte, 2, .null, 1, 0), (12, .astore 4, 2, .null, 0, 0), (14, .aload_n 0, 1, .null, 0, 0), (15, .iload_n 1, 1, .null, 0, 0), (16, .aload 4, 2, .null, 0, 0), (18, .iconst 0, 1, .int 0, 0, 0), (19, .aload_n 0, 1, .null, 0, 0), (20, .arraylength, 1, .null, 0, 0), (21, .iload_n 1, 1, .null, 0, 0), (22, .isub, 1, .null, 0, 0), (23, .iload_n 3, 1, .null, 0, 0), (24, .invokestatic 304, 3, .null, 0, 8), (27, .invokestatic 150, 3, .null, 0, 7), (30, .aload 4, 2, .null, 0, 0), (32, .areturn, 1, .null, 0, 0)]
def am_r101 : List (Nat × am_R) := [(0, .iload_n 1, 1, .null, 0, 0), (1, .iload_n 0, 1, .null, 0, 0), (2, .if_icmp .ge 35, 3, .null, 37, 0), (8, .dup, 1, .null, 0, 0), (12, .dup, 1, .null, 0, 0), (16, .iload_n 0, 1, .null, 0, 0), (26, .iload_n 1, 1, .null, 0, 0), (37, .return_, 1, .null, 0, 0)]
def am_r102 : List (Nat × am_R) := [(0, .iload_n 0, 1, .null, 0, 0), (1, .iload_n 1, 1, .null, 0, 0), (2, .if_icmp .gt 7, 3, .null, 9, 0), (5, .iload_n 0, 1, .null, 0, 0), (6, .goto 4, 3, .null, 10, 0), (9, .iload_n 1, 1, .null, 0, 0), (10, .ireturn, 1, .null, 0, 0)]
def am_r103 : List (Nat × am_R) := [(0, .iload_n 0, 1, .null, 0, 0), (1, .iload_n 1, 1, .null, 0, 0), (2, .if_icmp .ge 7, 3, .null, 9, 0), (5, .iconst (-1), 1, .int (-1), 0, 0), (6, .goto 13, 3, .null, 19, 0), (9, .iload_n 0, 1, .null, 0, 0), (10, .iload_n 1, 1, .null, 0, 0), (11, .if_icmp .ne 7, 3, .null, 18, 0), (14, .iconst 0, 1, .int 0, 0, 0), (15, .goto 4, 3, .null, 19, 0), (18, .iconst 1, 1, .int 1, 0, 0), (19, .ireturn, 1, .null, 0, 0)]
def am_r104 : List (Nat × am_R) := [(0, .lload_n 0, 1, .null, 0, 0), (1, .lload_n 2, 1, .null, 0, 0), (2, .lcmp, 1, .null, 0, 0), (3, .ifCond .ge 7, 3, .null, 10, 0), (6, .iconst (-1), 1, .int (-1), 0, 0), (7, .goto 14, 3, .null, 21, 0), (10, .lload_n 0, 1, .null, 0, 0), (11, .lload_n 2, 1, .null, 0, 0), (12, .lcmp, 1, .null, 0, 0), (13, .ifCond .ne 7, 3, .null, 20, 0), (16, .iconst 0, 1, .int 0, 0, 0), (17, .goto 4, 3, .null, 21, 0), (20, .iconst 1, 1, .int 1, 0, 0), (21, .ireturn, 1, .null, 0, 0)]
def am_tab : List (List (Nat × am_R)) := [am_r0, am_r1, am_r2, am_r3, am_r4, am_r5, am_r6, am_r7, am_r8, am_r9, am_r10, am_r11, am_r12, am_r13, am_r14, am_r15, am_r16, am_r17, am_r18, am_r19, am_r20, am_r21, am_r22, am_r23, am_r24, am_r25, am_r26, am_r27, am_r28, am_r29, am_r30, am_r31, am_r32, am_r33, am_r34, am_r35, am_r36, am_r37, am_r38, am_r39, am_r40, am_r41, am_r42, am_r43, am_r44, am_r45, am_r46, am_r47, am_r48, am_r49, am_r50, am_r51, am_r52, am_r53, am_r54, am_r55, am_r56, am_r57, am_r58, am_r59, am_r60, am_r61, am_r62, am_r63, am_r64, am_r65, am_r66, am_r67, am_r68, am_r69, am_r70, am_r71, am_r72, am_r73, am_r74, am_r75, am_r76, am_r77, am_r78, am_r79, am_r80, am_r81, am_r82, am_r83, am_r84, am_r85, am_r86, am_r87, am_r88, am_r89, am_r90, am_r91, am_r92, am_r93, am_r94, am_r95, am_r96, am_r97, am_r98, am_r99, am_r100, am_r101, am_r102, am_r103, am_r104]
def am_code (y : Nat) : List (Nat × am_R) := am_tab.getD y []
def am_mt : List (MethodName × ByteArray × Nat × Option FieldType × Nat × Nat) := [(⟨"ValueOrderLaw", "law", "([I)Z"⟩, code, 4, (some (.boolean)), 1, 99), (⟨"ValueOrder", "<init>", "()V"⟩, prog_1_method_1_code, 2, none, 1, 0), (⟨"ValueOrder$Value", "<init>", "(I[BJ[B)V"⟩, prog_6_method_1_code, 6, none, 5, 1), (⟨"ValueOrder$ValueList", "<init>", "()V"⟩, prog_7_method_1_code, 1, none, 1, 2), (⟨"ValueOrder", "feed", "(IIIII)I"⟩, prog_1_method_2_code, 6, (some (.int)), 6, 0), (⟨"ValueOrder", "putNumber", "(I)V"⟩, prog_1_method_13_code, 3, none, 2, 0), (⟨"ValueOrder", "read", "(II)I"⟩, prog_1_method_3_code, 4, (some (.int)), 3, 0), (⟨"ValueOrder", "isSlot", "(I)Z"⟩, prog_1_method_15_code, 2, (some (.boolean)), 2, 0), (⟨"ValueOrder", "isOnTape", "(I)Z"⟩, prog_1_method_14_code, 2, (some (.boolean)), 2, 0), (⟨"ValueOrder$Reader", "<init>", "([B)V"⟩, prog_3_method_1_code, 2, none, 2, 3), (⟨"ValueOrder$Reader", "wholeDocument", "(I)LValueOrder$Value;"⟩, prog_3_method_2_code, 3, (some (.object "ValueOrder$Value")), 2, 3), (⟨"ValueOrder$Reader", "readNest", "(I[BII)LValueOrder$Value;"⟩, prog_3_method_3_code, 11, (some (.object "ValueOrder$Value")), 5, 3), (⟨"ValueOrder$Reader", "has", "(II)Z"⟩, prog_3_method_8_code, 3, (some (.boolean)), 3, 3), (⟨"ValueOrder$Reader", "readNumber", "(I)J"⟩, prog_3_method_9_code, 5, (some (.long)), 2, 3), (⟨"ValueOrder$Reader", "readElement", "(II)LValueOrder$Value;"⟩, prog_3_method_4_code, 5, (some (.object "ValueOrder$Value")), 3, 3), (⟨"ValueOrder$Reader", "readName", "(I)[B"⟩, prog_3_method_5_code, 4, (some (.array .byte)), 2, 3), (⟨"ValueOrder$Utf8", "isRight", "([BII)Z"⟩, prog_5_method_2_code, 6, (some (.boolean)), 3, 99), (⟨"ValueOrder$Utf8", "lengthByLead", "(I)I"⟩, prog_5_method_3_code, 1, (some (.int)), 1, 99), (⟨"ValueOrder$Utf8", "isCharacter", "([BII)Z"⟩, prog_5_method_4_code, 6, (some (.boolean)), 3, 99), (⟨"ValueOrder", "copyOfBytes", "([BII)[B"⟩, prog_1_method_19_code, 3, (some (.array .byte)), 3, 0), (⟨"ValueOrder$Reader", "readTruth", "([BI)LValueOrder$Value;"⟩, prog_3_method_6_code, 5, (some (.object "ValueOrder$Value")), 3, 3), (⟨"ValueOrder$Reader", "readText", "([BI)LValueOrder$Value;"⟩, prog_3_method_7_code, 5, (some (.object "ValueOrder$Value")), 3, 3), (⟨"ValueOrder$Reader", "skipsZero", "()Z"⟩, prog_3_method_10_code, 1, (some (.boolean)), 1, 3), (⟨"ValueOrder$Value", "admitsName", "([B)Z"⟩, prog_6_method_5_code, 2, (some (.boolean)), 2, 1), (⟨"ValueOrder$Value", "isDecimal", "([BI)Z"⟩, prog_6_method_6_code, 5, (some (.boolean)), 2, 1), (⟨"ValueOrder$Value", "elementNamed", "([B)LValueOrder$Value;"⟩, prog_6_method_4_code, 3, (some (.object "ValueOrder$Value")), 2, 1), (⟨"ValueOrder$Order", "ofBytes", "([B[B)I"⟩, prog_2_method_4_code, 3, (some (.int)), 2, 99), (⟨"ValueOrder$Value", "append", "(LValueOrder$Value;)V"⟩, prog_6_method_3_code, 2, none, 2, 1), (⟨"ValueOrder", "path", "(I)I"⟩, prog_1_method_4_code, 3, (some (.int)), 2, 0), (⟨"ValueOrder$Step", "chainOf", "([BI)LValueOrder$Step;"⟩, prog_4_method_2_code, 6, (some (.object "ValueOrder$Step")), 2, 5), (⟨"ValueOrder$Step", "<init>", "([BLValueOrder$Step;)V"⟩, prog_4_method_1_code, 3, none, 3, 5), (⟨"ValueOrder", "compare", "(II)I"⟩, prog_1_method_5_code, 3, (some (.int)), 3, 0), (⟨"ValueOrder$Order", "ofValues", "(LValueOrder$Value;LValueOrder$Value;I)I"⟩, prog_2_method_2_code, 4, (some (.int)), 3, 99), (⟨"ValueOrder$Value", "rank", "()I"⟩, prog_6_method_2_code, 1, (some (.int)), 1, 1), (⟨"ValueOrder$Order", "ofElements", "(LValueOrder$Value;LValueOrder$Value;I)I"⟩, prog_2_method_3_code, 6, (some (.int)), 3, 99), (⟨"ValueOrder", "list", "(IIZ)I"⟩, prog_1_method_6_code, 4, (some (.int)), 4, 0), (⟨"ValueOrder", "isList", "(I)Z"⟩, prog_1_method_16_code, 2, (some (.boolean)), 2, 0), (⟨"ValueOrder", "fillWithLeaves", "(LValueOrder$ValueList;LValueOrder$Value;Z)Z"⟩, prog_1_method_18_code, 4, (some (.boolean)), 4, 0), (⟨"ValueOrder$ValueList", "clear", "()V"⟩, prog_7_method_2_code, 1, none, 1, 2), (⟨"ValueOrder$Walk", "<init>", "(LValueOrder$ValueList;ZLValueOrder$Value;)V"⟩, prog_8_method_1_code, 4, none, 4, 4), (⟨"ValueOrder$Walk", "follow", "(LValueOrder$Value;LValueOrder$Step;I)V"⟩, prog_8_method_2_code, 4, none, 4, 4), (⟨"ValueOrder$Walk", "addLeaf", "(LValueOrder$Value;)V"⟩, prog_8_method_5_code, 3, none, 2, 4), (⟨"ValueOrder$ValueList", "add", "(LValueOrder$Value;)V"⟩, prog_7_method_3_code, 2, none, 2, 2), (⟨"ValueOrder$Walk", "followInRow", "(LValueOrder$Value;LValueOrder$Step;I)V"⟩, prog_8_method_3_code, 6, none, 4, 4), (⟨"ValueOrder$Walk", "followInOther", "(LValueOrder$Value;LValueOrder$Step;I)V"⟩, prog_8_method_4_code, 5, none, 4, 4), (⟨"ValueOrder", "value", "(III)J"⟩, prog_1_method_7_code, 5, (some (.long)), 4, 0), (⟨"ValueOrder", "valueInList", "(II)LValueOrder$Value;"⟩, prog_1_method_17_code, 3, (some (.object "ValueOrder$Value")), 3, 0), (⟨"ValueOrder$ValueList", "valueAt", "(I)LValueOrder$Value;"⟩, prog_7_method_4_code, 2, (some (.object "ValueOrder$Value")), 2, 2), (⟨"ValueOrder", "text", "(III)I"⟩, prog_1_method_8_code, 5, (some (.int)), 4, 0), (⟨"ValueOrder", "between", "(II)I"⟩, prog_1_method_9_code, 5, (some (.int)), 3, 0), (⟨"ValueOrder", "sort", "(I)I"⟩, prog_1_method_10_code, 2, (some (.int)), 2, 0), (⟨"ValueOrder$ValueList", "arrange", "()V"⟩, prog_7_method_6_code, 3, none, 1, 2), (⟨"ValueOrder$ValueList", "mergeRuns", "(III)V"⟩, prog_7_method_7_code, 8, none, 4, 2), (⟨"ValueOrder$ValueList", "countDifferent", "()I"⟩, prog_7_method_8_code, 3, (some (.int)), 1, 2), (⟨"ValueOrder", "from", "(II)I"⟩, prog_1_method_11_code, 3, (some (.int)), 3, 0), (⟨"ValueOrder$ValueList", "originAt", "(I)I"⟩, prog_7_method_5_code, 2, (some (.int)), 2, 2), (⟨"ValueOrder", "meet", "(IIZ)Z"⟩, prog_1_method_12_code, 4, (some (.boolean)), 4, 0), (⟨"ValueOrder$ValueList", "sharesWith", "(LValueOrder$ValueList;)Z"⟩, prog_7_method_9_code, 5, (some (.boolean)), 2, 2), (⟨"ValueOrderModel", "<init>", "()V"⟩, prog_10_method_1_code, 2, none, 1, 6), (⟨"ValueOrderModel", "feed", "(IIIII)I"⟩, prog_10_method_7_code, 6, (some (.int)), 6, 6), (⟨"ValueOrderModel", "put", "(I)V"⟩, prog_10_method_6_code, 3, none, 2, 6), (⟨"ValueOrderModel", "read", "(II)I"⟩, prog_10_method_19_code, 5, (some (.int)), 3, 6), (⟨"ValueOrderModel", "isSlot", "(I)Z"⟩, prog_10_method_5_code, 1, (some (.boolean)), 1, 6), (⟨"ValueOrderModel", "elements", "(II)I"⟩, prog_10_method_18_code, 5, (some (.int)), 3, 6), (⟨"ValueOrderModel", "whole", "(I)I"⟩, prog_10_method_4_code, 2, (some (.int)), 2, 6), (⟨"ValueOrderModel", "at", "(I)I"⟩, prog_10_method_3_code, 2, (some (.int)), 2, 6), (⟨"ValueOrderModel", "opens", "(IIZ)Z"⟩, prog_10_method_15_code, 5, (some (.boolean)), 4, 6), (⟨"ValueOrderModel", "element", "()Z"⟩, prog_10_method_16_code, 9, (some (.boolean)), 1, 6), (⟨"ValueOrderModel", "nameEnd", "(II)I"⟩, prog_10_method_11_code, 4, (some (.int)), 3, 6), (⟨"ValueOrderModel", "isText", "(II)Z"⟩, prog_10_method_9_code, 5, (some (.boolean)), 3, 6), (⟨"ValueOrderModel", "character", "(II)I"⟩, prog_10_method_8_code, 8, (some (.int)), 3, 6), (⟨"ValueOrderModel", "isNumber", "(III)Z"⟩, prog_10_method_14_code, 6, (some (.boolean)), 4, 6), (⟨"ValueOrderModel", "isThere", "(III)Z"⟩, prog_10_method_13_code, 5, (some (.boolean)), 4, 6), (⟨"ValueOrderModel", "isAlike", "(II)Z"⟩, prog_10_method_12_code, 4, (some (.boolean)), 3, 6), (⟨"ValueOrderModel", "behind", "(II)I"⟩, prog_10_method_10_code, 3, (some (.int)), 3, 6), (⟨"ValueOrderModel", "isTextValue", "(II)Z"⟩, prog_10_method_17_code, 4, (some (.boolean)), 3, 6), (⟨"ValueOrderModel", "path", "(I)I"⟩, prog_10_method_20_code, 6, (some (.int)), 2, 6), (⟨"ValueOrderModel", "compare", "(II)I"⟩, prog_10_method_26_code, 3, (some (.int)), 3, 6), (⟨"ValueOrderModel", "order", "(IIII)I"⟩, prog_10_method_25_code, 15, (some (.int)), 5, 6), (⟨"ValueOrderModel", "one", "(IIII)I"⟩, prog_10_method_24_code, 10, (some (.int)), 5, 6), (⟨"ValueOrderModel", "classOf", "(I)I"⟩, prog_10_method_21_code, 1, (some (.int)), 1, 6), (⟨"ValueOrderModel", "number", "(II)J"⟩, prog_10_method_22_code, 5, (some (.long)), 3, 6), (⟨"ValueOrderModel", "bytes", "(IIII)I"⟩, prog_10_method_23_code, 6, (some (.int)), 5, 6), (⟨"ValueOrderModel", "list", "(IIZ)I"⟩, prog_10_method_34_code, 8, (some (.int)), 4, 6), (⟨"ValueOrderModel", "find", "(IZI)I"⟩, prog_10_method_33_code, 8, (some (.int)), 4, 6), (⟨"ValueOrderModel", "push", "(III)V"⟩, prog_10_method_27_code, 4, none, 4, 6), (⟨"ValueOrderModel", "addLeaf", "(IIIZ)V"⟩, prog_10_method_32_code, 7, none, 5, 6), (⟨"ValueOrderModel", "leaf", "(III)V"⟩, prog_10_method_28_code, 4, none, 4, 6), (⟨"ValueOrderModel", "named", "(II)I"⟩, prog_10_method_30_code, 5, (some (.int)), 3, 6), (⟨"ValueOrderModel", "isStep", "(II)Z"⟩, prog_10_method_29_code, 4, (some (.boolean)), 3, 6), (⟨"ValueOrderModel", "pushDocuments", "(II)V"⟩, prog_10_method_31_code, 8, none, 3, 6), (⟨"ValueOrderModel", "value", "(III)J"⟩, prog_10_method_37_code, 6, (some (.long)), 4, 6), (⟨"ValueOrderModel", "hasValue", "(II)Z"⟩, prog_10_method_35_code, 3, (some (.boolean)), 3, 6), (⟨"ValueOrderModel", "elementsAt", "(I)I"⟩, prog_10_method_36_code, 5, (some (.int)), 2, 6), (⟨"ValueOrderModel", "text", "(III)I"⟩, prog_10_method_38_code, 5, (some (.int)), 4, 6), (⟨"ValueOrderModel", "between", "(II)I"⟩, prog_10_method_39_code, 3, (some (.int)), 3, 6), (⟨"ValueOrderModel", "sort", "(I)I"⟩, prog_10_method_40_code, 9, (some (.int)), 2, 6), (⟨"ValueOrderModel", "from", "(II)I"⟩, prog_10_method_41_code, 3, (some (.int)), 3, 6), (⟨"ValueOrderModel", "meet", "(IIZ)Z"⟩, prog_10_method_42_code, 8, (some (.boolean)), 4, 6), (⟨"java/util/Arrays", "copyOfRange", "([BII)[B"⟩, prog_16_method_132_code, 3, (some (.array .byte)), 3, 99), (⟨"java/util/Arrays", "copyOfRangeByte", "([BII)[B"⟩, prog_16_method_133_code, 5, (some (.array .byte)), 3, 99), (⟨"java/util/Arrays", "checkLength", "(II)V"⟩, prog_16_method_131_code, 2, none, 2, 99), (⟨"java/lang/Math", "min", "(II)I"⟩, prog_14_method_69_code, 2, (some (.int)), 2, 99), (⟨"java/lang/Integer", "compare", "(II)I"⟩, prog_12_method_40_code, 2, (some (.int)), 2, 99), (⟨"java/lang/Long", "compare", "(JJ)I"⟩, prog_13_method_42_code, 4, (some (.int)), 2, 99)]
def am_me (y : Nat) : MethodName × ByteArray × Nat × Option FieldType × Nat × Nat := am_mt.getD y (⟨"", "", ""⟩, ⟨#[]⟩, 0, none, 0, 99)
def am_yn (y : Nat) : MethodName := (am_me y).1
def am_by (y : Nat) : ByteArray := (am_me y).2.1
def am_ml (y : Nat) : Nat := (am_me y).2.2.1
def am_re (y : Nat) : Option FieldType := (am_me y).2.2.2.1
def am_ar (y : Nat) : Nat := (am_me y).2.2.2.2.1
def am_ko (y : Nat) : Nat := (am_me y).2.2.2.2.2
def am_ow (y : Nat) : String := (am_yn y).cls
def am_nc : Nat := 7
def am_cns : List String := ["ValueOrder", "ValueOrder$Value", "ValueOrder$ValueList", "ValueOrder$Reader", "ValueOrder$Walk", "ValueOrder$Step", "ValueOrderModel"]
def am_cn (ci : Nat) : String := am_cns.getD ci ""
def am_fl : List (List (String × String × String × Bool)) := [[("ValueOrder", "tape", "[B", true), ("ValueOrder", "fed", "I", false), ("ValueOrder", "slots", "[LValueOrder$Value;", true), ("ValueOrder", "lists", "[LValueOrder$ValueList;", true), ("ValueOrder", "leftLeaves", "LValueOrder$ValueList;", true), ("ValueOrder", "rightLeaves", "LValueOrder$ValueList;", true), ("ValueOrder", "missing", "LValueOrder$Value;", true), ("ValueOrder", "firstStep", "LValueOrder$Step;", false)], [("ValueOrder$Value", "kind", "I", true), ("ValueOrder$Value", "name", "[B", true), ("ValueOrder$Value", "number", "J", true), ("ValueOrder$Value", "bytes", "[B", true), ("ValueOrder$Value", "count", "I", false), ("ValueOrder$Value", "first", "LValueOrder$Value;", false), ("ValueOrder$Value", "last", "LValueOrder$Value;", false), ("ValueOrder$Value", "next", "LValueOrder$Value;", false)], [("ValueOrder$ValueList", "values", "[LValueOrder$Value;", true), ("ValueOrder$ValueList", "origins", "[I", true), ("ValueOrder$ValueList", "spareValues", "[LValueOrder$Value;", true), ("ValueOrder$ValueList", "spareOrigins", "[I", true), ("ValueOrder$ValueList", "size", "I", false), ("ValueOrder$ValueList", "overfull", "Z", false)], [("ValueOrder$Reader", "bytes", "[B", true), ("ValueOrder$Reader", "at", "I", false)], [("ValueOrder$Walk", "met", "LValueOrder$ValueList;", true), ("ValueOrder$Walk", "items", "Z", true), ("ValueOrder$Walk", "missing", "LValueOrder$Value;", true)], [("ValueOrder$Step", "name", "[B", true), ("ValueOrder$Step", "next", "LValueOrder$Step;", true), ("ValueOrder$Step", "count", "I", true)], [("ValueOrderModel", "thrown", "I", false), ("ValueOrderModel", "store", "[B", true), ("ValueOrderModel", "taped", "I", false), ("ValueOrderModel", "steps", "I", false), ("ValueOrderModel", "pathFrom", "[I", true), ("ValueOrderModel", "pathBytes", "[B", true), ("ValueOrderModel", "many", "[I", true), ("ValueOrderModel", "kind", "[I", true), ("ValueOrderModel", "place", "[I", true), ("ValueOrderModel", "stood", "[I", true), ("ValueOrderModel", "leaves", "I", false), ("ValueOrderModel", "leafKind", "[I", true), ("ValueOrderModel", "leafPlace", "[I", true), ("ValueOrderModel", "pile", "I", false), ("ValueOrderModel", "pileKind", "[I", true), ("ValueOrderModel", "pilePlace", "[I", true), ("ValueOrderModel", "pileStep", "[I", true), ("ValueOrderModel", "open", "I", false), ("ValueOrderModel", "openA", "[I", true), ("ValueOrderModel", "endA", "[I", true), ("ValueOrderModel", "openB", "[I", true), ("ValueOrderModel", "endB", "[I", true), ("ValueOrderModel", "isRow", "[Z", true), ("ValueOrderModel", "count", "[I", true)]]
def am_T (ci : Nat) : u_T := fun k => (am_fl.getD ci []).getD k ("", "", "", false)
def am_tl : List (List FieldType) := [[.array .byte, .int, .array (.object "ValueOrder$Value"), .array (.object "ValueOrder$ValueList"), .object "ValueOrder$ValueList", .object "ValueOrder$ValueList", .object "ValueOrder$Value", .object "ValueOrder$Step"], [.int, .array .byte, .long, .array .byte, .int, .object "ValueOrder$Value", .object "ValueOrder$Value", .object "ValueOrder$Value"], [.array (.object "ValueOrder$Value"), .array .int, .array (.object "ValueOrder$Value"), .array .int, .int, .boolean], [.array .byte, .int], [.object "ValueOrder$ValueList", .boolean, .object "ValueOrder$Value"], [.array .byte, .object "ValueOrder$Step", .int], [.int, .array .byte, .int, .int, .array .int, .array .byte, .array .int, .array .int, .array .int, .array .int, .int, .array .int, .array .int, .int, .array .int, .array .int, .array .int, .int, .array .int, .array .int, .array .int, .array .int, .array .boolean, .array .int]]
def am_ty (ci k : Nat) : FieldType := (am_tl.getD ci []).getD k .int
def am_nf (ci : Nat) : Nat := (am_fl.getD ci []).length
def am_dl : List (List Value) := [[.null, .int 0, .null, .null, .null, .null, .null, .null], [.int 0, .null, .long 0, .null, .int 0, .null, .null, .null], [.null, .null, .null, .null, .int 0, .int 0], [.null, .int 0], [.null, .int 0, .null], [.null, .null, .int 0], [.int 0, .null, .int 0, .int 0, .null, .null, .null, .null, .null, .null, .int 0, .null, .null, .int 0, .null, .null, .null, .int 0, .null, .null, .null, .null, .null, .null]]
def am_def (ci : Nat) : List Value := am_dl.getD ci []
def am_vw : List vw_C := [(am_cn 0, am_T 0, am_nf 0), (am_cn 1, am_T 1, am_nf 1), (am_cn 2, am_T 2, am_nf 2), (am_cn 3, am_T 3, am_nf 3), (am_cn 4, am_T 4, am_nf 4), (am_cn 5, am_T 5, am_nf 5), (am_cn 6, am_T 6, am_nf 6)]
def am_tyl : List FieldType := [.int, .byte, .boolean, .object "ValueOrder$Value", .object "ValueOrder$ValueList"]
def am_el (t : Nat) : Option Nat := match t with
  | 3 => some 1
  | 4 => some 2
  | _ => none
def am_host : String := "ValueOrder"
def am_stC : String := "ValueOrder"
def am_stN : String := "NO_BYTES"
def am_stD : String := "[B"
def am_aos : List String := ["ValueOrder$Value", "ValueOrder$ValueList"]
def am_nsF : List (String × Nat × String × String × String × String) := [("ValueOrder$Reader", 19, "ValueOrder", "NO_BYTES", "[B", "ValueOrder")]
def am_nsM : List (String × Nat × MethodName × String) := [("ValueOrder$Reader", 75, ⟨"ValueOrder", "copyOfBytes", "([BII)[B"⟩, "ValueOrder"), ("ValueOrder$Step", 29, ⟨"ValueOrder", "copyOfBytes", "([BII)[B"⟩, "ValueOrder")]
def am_nst : List Jvm.Cond := am_nsF.map (fun q => .fieldLinkNest q.1 q.2.1 q.2.2.1 q.2.2.2.1 q.2.2.2.2.1 q.2.2.2.2.2) ++ am_nsM.map (fun q => .methodLinkNest q.1 q.2.1 q.2.2.1 q.2.2.2)
end
section
/-! the small machine: a run of a method over a heap of plain cells -/
abbrev am_C : Type := (Nat × vp_A) ⊕ (Nat × List Value)
abbrev am_H : Type := (Nat → Option am_C) × Nat × Nat
abbrev am_L : Type := List (Option Value)
abbrev am_F : Type := Nat × am_L × List Value
def am_ld (L : am_L) (i : Nat) : Option Value := match L[i]? with
  | some (some v) => some v
  | _ => none
def am_clr (L : am_L) (i : Nat) : am_L := match i with
  | 0 => L
  | j + 1 => match am_ld L j with
    | some w => if w.category = 2 then L.set j none else L
    | none => L
def am_s1 (L : am_L) (i : Nat) (v : Value) : am_L := (am_clr L i).set i (some v)
def am_s2 (L : am_L) (i : Nat) (v : Value) : am_L := ((am_clr L i).set i (some v)).set (i + 1) none
def am_i1 (F : am_F) (f : Int32 → Value) : Option am_F := match F.2.2 with
  | .int x :: st => some (F.1 + 1, F.2.1, f x :: st)
  | _ => none
def am_i2 (F : am_F) (f : Int32 → Int32 → Value) : Option am_F := match F.2.2 with
  | .int y :: .int x :: st => some (F.1 + 1, F.2.1, f x y :: st)
  | _ => none
def am_l1 (F : am_F) (f : Int64 → Value) : Option am_F := match F.2.2 with
  | .long x :: st => some (F.1 + 1, F.2.1, f x :: st)
  | _ => none
def am_l2 (F : am_F) (f : Int64 → Int64 → Value) : Option am_F := match F.2.2 with
  | .long y :: .long x :: st => some (F.1 + 1, F.2.1, f x y :: st)
  | _ => none
def am_li (F : am_F) (f : Int64 → Int32 → Value) : Option am_F := match F.2.2 with
  | .int y :: .long x :: st => some (F.1 + 1, F.2.1, f x y :: st)
  | _ => none
def am_ldi (F : am_F) (i n : Nat) : Option am_F := match am_ld F.2.1 i with
  | some (.int x) => some (F.1 + n, F.2.1, .int x :: F.2.2)
  | _ => none
def am_ldl (F : am_F) (i n : Nat) : Option am_F := match am_ld F.2.1 i with
  | some (.long x) => some (F.1 + n, F.2.1, .long x :: F.2.2)
  | _ => none
def am_lda (F : am_F) (i n : Nat) : Option am_F := match am_ld F.2.1 i with
  | some (.ref x) => some (F.1 + n, F.2.1, .ref x :: F.2.2)
  | some .null => some (F.1 + n, F.2.1, .null :: F.2.2)
  | _ => none
def am_sti (F : am_F) (i n : Nat) : Option am_F := match F.2.2 with
  | .int x :: st => if i < F.2.1.length then some (F.1 + n, am_s1 F.2.1 i (.int x), st) else none
  | _ => none
def am_stl (F : am_F) (i n : Nat) : Option am_F := match F.2.2 with
  | .long x :: st => if i + 1 < F.2.1.length then some (F.1 + n, am_s2 F.2.1 i (.long x), st) else none
  | _ => none
def am_sta (F : am_F) (i n : Nat) : Option am_F := match F.2.2 with
  | .ref x :: st => if i < F.2.1.length then some (F.1 + n, am_s1 F.2.1 i (.ref x), st) else none
  | .null :: st => if i < F.2.1.length then some (F.1 + n, am_s1 F.2.1 i .null, st) else none
  | _ => none
/-- a step that touches no cell and takes no branch -/
def am_pl (r : am_R) (F : am_F) : Option am_F := match r.1 with
  | .iconst _ => some (F.1 + 1, F.2.1, r.2.2.1 :: F.2.2)
  | .bipush _ => some (F.1 + 2, F.2.1, r.2.2.1 :: F.2.2)
  | .sipush _ => some (F.1 + 3, F.2.1, r.2.2.1 :: F.2.2)
  | .lconst _ => some (F.1 + 1, F.2.1, r.2.2.1 :: F.2.2)
  | .ldc _ => some (F.1 + 2, F.2.1, r.2.2.1 :: F.2.2)
  | .ldc2_w _ => some (F.1 + 3, F.2.1, r.2.2.1 :: F.2.2)
  | .aconst_null => some (F.1 + 1, F.2.1, .null :: F.2.2)
  | .iload i => am_ldi F i 2
  | .iload_n k => am_ldi F k.val 1
  | .lload i => am_ldl F i 2
  | .lload_n k => am_ldl F k.val 1
  | .aload i => am_lda F i 2
  | .aload_n k => am_lda F k.val 1
  | .istore i => am_sti F i 2
  | .istore_n k => am_sti F k.val 1
  | .lstore i => am_stl F i 2
  | .lstore_n k => am_stl F k.val 1
  | .astore i => am_sta F i 2
  | .astore_n k => am_sta F k.val 1
  | .iinc i _ => match am_ld F.2.1 i, r.2.2.1 with
    | some (.int x), .int c => if i < F.2.1.length then some (F.1 + 3, am_s1 F.2.1 i (.int (x + c)), F.2.2) else none
    | _, _ => none
  | .iadd => am_i2 F (fun x y => .int (x + y))
  | .isub => am_i2 F (fun x y => .int (x - y))
  | .imul => am_i2 F (fun x y => .int (x * y))
  | .iand => am_i2 F (fun x y => .int (x &&& y))
  | .ior => am_i2 F (fun x y => .int (x ||| y))
  | .ishl => am_i2 F (fun x y => .int (x <<< (y &&& 31)))
  | .ishr => am_i2 F (fun x y => .int (x >>> (y &&& 31)))
  | .ladd => am_l2 F (fun x y => .long (x + y))
  | .lmul => am_l2 F (fun x y => .long (x * y))
  | .land => am_l2 F (fun x y => .long (x &&& y))
  | .lor => am_l2 F (fun x y => .long (x ||| y))
  | .lcmp => am_l2 F (fun x y => .int (lg_cmp x y))
  | .lshl => am_li F (fun x y => .long (x <<< (y.toInt64 &&& 63)))
  | .i2l => am_i1 F (fun x => .long x.toInt64)
  | .l2i => am_l1 F (fun x => .int x.toInt32)
  | .i2b => am_i1 F (fun x => .int x.toInt8.toInt32)
  | .dup => match F.2.2 with
    | v :: st => if v.category = 1 then some (F.1 + 1, F.2.1, v :: v :: st) else none
    | _ => none
  | .dup_x1 => match F.2.2 with
    | v :: w :: st => if v.category = 1 ∧ w.category = 1 then some (F.1 + 1, F.2.1, v :: w :: v :: st) else none
    | _ => none
  | .dup2 => match F.2.2 with
    | v :: w :: st => if v.category = 1 ∧ w.category = 1 then some (F.1 + 1, F.2.1, v :: w :: v :: w :: st) else none
    | _ => none
  | .pop => match F.2.2 with
    | v :: st => if v.category = 1 then some (F.1 + 1, F.2.1, st) else none
    | _ => none
  | .goto _ => some (r.2.2.2.1, F.2.1, F.2.2)
  | _ => none
def am_upd (h : Nat → Option am_C) (a : Nat) (c : am_C) : Nat → Option am_C := fun q => if q = a then some c else h q
def am_set (σ : am_H) (a : Nat) (c : am_C) : am_H := (am_upd σ.1 a c, σ.2.1, σ.2.2)
def am_psh (σ : am_H) (c : am_C) (n : Nat) : am_H := (am_upd σ.1 σ.2.1 c, σ.2.1 + 1, σ.2.2 + n)
def am_cmp (c : Jvm.ClassFile.Cond) (x y : Int32) : Prop := match c with
  | .eq => x = y
  | .ne => ¬ x = y
  | .lt => x < y
  | .ge => y ≤ x
  | .gt => y < x
  | .le => x ≤ y
/-- where a table of offsets leads -/
def am_tsw (pc : Nat) (d lo hi : Int) (offs : Array Int) (x : Int32) (t : Nat) : Prop :=
  ((x.toInt < lo ∨ hi < x.toInt) ∧ (pc : Int) + d = (t : Int)) ∨ (¬ x.toInt < lo ∧ ¬ hi < x.toInt ∧ ∃ o, offs[(x.toInt - lo).toNat]? = some o ∧ (pc : Int) + o = (t : Int))
def am_lsw (pc : Nat) (d : Int) (ps : Array (Int × Int)) (x : Int32) (t : Nat) : Prop :=
  (ps.toList.zip (ps.toList.drop 1)).all (fun (a, next) => a.1 < next.1) = true ∧ (pc : Int) + Op.lookupswitch.offset ps.toList d x.toInt = (t : Int)
/-- branches -/
def am_br (r : am_R) (F : am_F) (K : am_F → Prop) : Prop := match r.1 with
  | .ifCond c _ => ∃ x st, F.2.2 = .int x :: st ∧ (am_cmp c x 0 → K (r.2.2.2.1, F.2.1, st)) ∧ (¬ am_cmp c x 0 → K (F.1 + 3, F.2.1, st))
  | .if_icmp c _ => ∃ x y st, F.2.2 = .int y :: .int x :: st ∧ (am_cmp c x y → K (r.2.2.2.1, F.2.1, st)) ∧ (¬ am_cmp c x y → K (F.1 + 3, F.2.1, st))
  | .ifnull _ => ∃ v st, F.2.2 = v :: st ∧ ((v = .null ∧ K (r.2.2.2.1, F.2.1, st)) ∨ ((∃ a, v = .ref a) ∧ K (F.1 + 3, F.2.1, st)))
  | .ifnonnull _ => ∃ v st, F.2.2 = v :: st ∧ ((v = .null ∧ K (F.1 + 3, F.2.1, st)) ∨ ((∃ a, v = .ref a) ∧ K (r.2.2.2.1, F.2.1, st)))
  | .tableswitch d lo hi offs => ∃ x st t, F.2.2 = .int x :: st ∧ am_tsw F.1 d lo hi offs x t ∧ K (t, F.2.1, st)
  | .lookupswitch d ps => ∃ x st t, F.2.2 = .int x :: st ∧ am_lsw F.1 d ps x t ∧ K (t, F.2.1, st)
  | _ => False
/-- steps that read or write cells; g.1: the first address that may be written, g.2: the cell of the static row -/
def am_hp (g : Nat × Nat) (r : am_R) (F : am_F) (σ : am_H) (K : am_F → am_H → Prop) : Prop := match r.1 with
  | .getfield _ => ∃ a st fs v, F.2.2 = .ref a :: st ∧ σ.1 a = some (.inr (r.2.2.2.1, fs)) ∧ fs[r.2.2.2.2]? = some v ∧ K (F.1 + 3, F.2.1, v :: st) σ
  | .putfield _ => ∃ a st fs v, F.2.2 = v :: .ref a :: st ∧ g.1 ≤ a ∧ σ.1 a = some (.inr (r.2.2.2.1, fs)) ∧ r.2.2.2.2 < fs.length ∧ narrow (am_ty r.2.2.2.1 r.2.2.2.2) v = v ∧ fits (am_ty r.2.2.2.1 r.2.2.2.2) v = true ∧ K (F.1 + 3, F.2.1, st) (am_set σ a (.inr (r.2.2.2.1, fs.set r.2.2.2.2 v)))
  | .getstatic _ => K (F.1 + 3, F.2.1, .ref g.2 :: F.2.2) σ
  | .new _ => K (F.1 + 3, F.2.1, .ref σ.2.1 :: F.2.2) (am_psh σ (.inr (r.2.2.2.1, am_def r.2.2.2.1)) (am_nf r.2.2.2.1))
  | .newarray _ => ∃ n st, F.2.2 = .int n :: st ∧ ¬ n < 0 ∧ n.toNatClampNeg ≤ 65536 ∧ K (F.1 + 2, F.2.1, .ref σ.2.1 :: st) (am_psh σ (.inl (r.2.2.2.1, n.toNatClampNeg, .inl (fun _ => 0))) n.toNatClampNeg)
  | .anewarray _ => ∃ n st, F.2.2 = .int n :: st ∧ ¬ n < 0 ∧ n.toNatClampNeg ≤ 65536 ∧ K (F.1 + 3, F.2.1, .ref σ.2.1 :: st) (am_psh σ (.inl (r.2.2.2.1, n.toNatClampNeg, .inr (.inr (.inr (.inr (fun _ => none)))))) n.toNatClampNeg)
  | .arraylength => ∃ a st t n x, F.2.2 = .ref a :: st ∧ t < 5 ∧ ((∃ f, x = .inl f) ∨ (∃ f, x = .inr (.inr (.inr (.inr f))))) ∧ σ.1 a = some (.inl (t, n, x)) ∧ K (F.1 + 1, F.2.1, .int (Int32.ofNat n) :: st) σ
  | .iaload => ∃ a i st n f, F.2.2 = .int i :: .ref a :: st ∧ σ.1 a = some (.inl (0, n, .inl f)) ∧ vp_in i n ∧ K (F.1 + 1, F.2.1, .int (f i.toNatClampNeg) :: st) σ
  | .baload => ∃ a i st t n f, F.2.2 = .int i :: .ref a :: st ∧ (t = 1 ∨ t = 2) ∧ σ.1 a = some (.inl (t, n, .inl f)) ∧ vp_in i n ∧ K (F.1 + 1, F.2.1, .int (f i.toNatClampNeg) :: st) σ
  | .aaload => ∃ a i st t n f, F.2.2 = .int i :: .ref a :: st ∧ (t = 3 ∨ t = 4) ∧ σ.1 a = some (.inl (t, n, .inr (.inr (.inr (.inr f))))) ∧ vp_in i n ∧ K (F.1 + 1, F.2.1, va_rf (f i.toNatClampNeg) :: st) σ
  | .iastore => ∃ a i x st n f, F.2.2 = .int x :: .int i :: .ref a :: st ∧ g.1 ≤ a ∧ σ.1 a = some (.inl (0, n, .inl f)) ∧ vp_in i n ∧ K (F.1 + 1, F.2.1, st) (am_set σ a (.inl (0, n, .inl (upd f i.toNatClampNeg x))))
  | .bastore => ∃ a i x st n f, F.2.2 = .int x :: .int i :: .ref a :: st ∧ g.1 ≤ a ∧ vp_in i n ∧
      ((σ.1 a = some (.inl (1, n, .inl f)) ∧ K (F.1 + 1, F.2.1, st) (am_set σ a (.inl (1, n, .inl (upd f i.toNatClampNeg (vp_nar .byte x)))))) ∨
       (σ.1 a = some (.inl (2, n, .inl f)) ∧ K (F.1 + 1, F.2.1, st) (am_set σ a (.inl (2, n, .inl (upd f i.toNatClampNeg (vp_nar .boolean x)))))))
  | .aastore => ∃ a i v st t n f ci fs, F.2.2 = .ref v :: .int i :: .ref a :: st ∧ g.1 ≤ a ∧ σ.1 a = some (.inl (t, n, .inr (.inr (.inr (.inr f))))) ∧ am_el t = some ci ∧ σ.1 v = some (.inr (ci, fs)) ∧ vp_in i n ∧ K (F.1 + 1, F.2.1, st) (am_set σ a (.inl (t, n, .inr (.inr (.inr (.inr (va_up f i.toNatClampNeg (some v))))))))
  | .checkcast _ => ∃ a st n f, F.2.2 = .ref a :: st ∧ g.1 ≤ a ∧ σ.1 a = some (.inl (1, n, .inl f)) ∧ K (F.1 + 3, F.2.1, .ref a :: st) σ
  | .idiv => ∃ x y st, F.2.2 = .int y :: .int x :: st ∧ ¬ y = 0 ∧ K (F.1 + 1, F.2.1, .int (x / y) :: st) σ
  | .irem => ∃ x y st, F.2.2 = .int y :: .int x :: st ∧ ¬ y = 0 ∧ K (F.1 + 1, F.2.1, .int (x - x / y * y) :: st) σ
  | _ => False
/-- how a method's end fits its type -/
def am_rtok (y : Nat) (v : Option Value) : Prop := match v with
  | some (.int x) => ∃ ty, am_re y = some ty ∧ narrow ty (.int x) = .int x
  | some (.long _) => am_re y = some .long
  | some .null => ∃ ty, am_re y = some ty ∧ ((∃ n, ty = .object n) ∨ ∃ t, ty = .array t)
  | some (.ref _) => ∃ ty, am_re y = some ty ∧ ((∃ n, ty = .object n) ∨ ∃ t, ty = .array t)
  | none => am_re y = none
  | _ => False
def am_en (y : Nat) (r : am_R) (F : am_F) (σ : am_H) (Q : Option Value → am_H → Prop) : Prop := match r.1 with
  | .ireturn => ∃ x, F.2.2 = [.int x] ∧ am_rtok y (some (.int x)) ∧ Q (some (.int x)) σ
  | .lreturn => ∃ x, F.2.2 = [.long x] ∧ am_rtok y (some (.long x)) ∧ Q (some (.long x)) σ
  | .areturn => ∃ v, F.2.2 = [v] ∧ (v = .null ∨ ∃ a, v = .ref a) ∧ am_rtok y (some v) ∧ Q (some v) σ
  | .return_ => F.2.2 = [] ∧ am_rtok y none ∧ Q none σ
  | _ => False
def am_ent : List Value → am_L
  | [] => []
  | v :: r => if v.category = 2 then some v :: none :: am_ent r else some v :: am_ent r
def am_pad (L : am_L) (n : Nat) : am_L := L ++ List.replicate (n - L.length) none
abbrev am_T0 : Type := Nat → Nat → am_F → am_H → (Option Value → am_H → Prop) → Prop
def am_cg (P : am_T0) (k d y y' : Nat) (F : am_F) (σ : am_H) (Q : Option Value → am_H → Prop) : Prop :=
  ∃ (d' : Nat) (vs rest : List Value) (Q' : Option Value → am_H → Prop), d = d' + 1 ∧ F.2.2 = vs.reverse ++ rest ∧ vs.length = am_ar y' ∧ (rest.map fun v => v.category).sum ≤ 8 ∧ (am_ent vs).length ≤ am_ml y' ∧ (k = 0 ∨ (k = 1 ∧ ∃ b As, vs = .ref b :: As) ∨ (k = 2 ∧ ∃ b As fs, vs = .ref b :: As ∧ σ.1 b = some (.inr (am_ko y', fs)))) ∧
    P d' y' (0, am_pad (am_ent vs) (am_ml y'), []) σ Q' ∧ ∀ v σ', Q' v σ' → P d y (F.1 + 3, F.2.1, v.toList ++ rest) σ' Q
/-- calls -/
def am_ca (g : Nat × Nat) (P : am_T0) (d y : Nat) (r : am_R) (F : am_F) (σ : am_H) (Q : Option Value → am_H → Prop) : Prop := match r.1 with
  | .invokespecial _ => (r.2.2.2.2 = 9 ∧ ∃ a rest, F.2.2 = .ref a :: rest ∧ (rest.map fun v => v.category).sum ≤ 8 ∧ 1 ≤ d ∧ P d y (F.1 + 3, F.2.1, rest) σ Q) ∨ (¬ r.2.2.2.2 = 9 ∧ am_cg P 1 d y r.2.2.2.1 F σ Q)
  | .invokevirtual _ => (r.2.2.2.2 = 6 ∧ ∃ (a n : Nat) (f : Nat → Int32) (rest : List Value), F.2.2 = .ref a :: rest ∧ (rest.map fun v => v.category).sum ≤ 8 ∧ 1 ≤ d ∧ g.1 ≤ a ∧ σ.1 a = some (.inl (1, n, .inl f)) ∧ (∀ i, i < n → fits .byte (.int (f i)) = true) ∧ P d y (F.1 + 3, F.2.1, .ref σ.2.1 :: rest) (am_psh σ (.inl (1, n, .inl f)) n) Q) ∨ (¬ r.2.2.2.2 = 6 ∧ am_cg P 2 d y r.2.2.2.1 F σ Q)
  | .invokestatic _ => (r.2.2.2.2 = 7 ∧ ∃ (n dp sp : Int32) (a a0 n0 n1 : Nat) (f f1 : Nat → Int32) (rest : List Value), F.2.2 = .int n :: .int dp :: .ref a :: .int sp :: .ref a0 :: rest ∧ (rest.map fun v => v.category).sum ≤ 8 ∧ 1 ≤ d ∧ g.1 ≤ a ∧ g.1 ≤ a0 ∧ σ.1 a0 = some (.inl (1, n0, .inl f)) ∧ σ.1 a = some (.inl (1, n1, .inl f1)) ∧ ¬ sp < 0 ∧ ¬ dp < 0 ∧ ¬ n < 0 ∧ sp.toNatClampNeg + n.toNatClampNeg ≤ n0 ∧ dp.toNatClampNeg + n.toNatClampNeg ≤ n1 ∧ (∀ i, i < n.toNatClampNeg → fits .byte (.int (f (sp.toNatClampNeg + i))) = true) ∧
        P d y (F.1 + 3, F.2.1, rest) (am_set σ a (.inl (1, n1, .inl (va_cpy f f1 sp.toNatClampNeg dp.toNatClampNeg n.toNatClampNeg)))) Q) ∨
      (r.2.2.2.2 = 8 ∧ ∃ x z rest, F.2.2 = .int z :: .int x :: rest ∧ (rest.map fun v => v.category).sum ≤ 8 ∧ 1 ≤ d ∧ P d y (F.1 + 3, F.2.1, .int (if z < x then z else x) :: rest) σ Q) ∨
      (¬ r.2.2.2.2 = 7 ∧ ¬ r.2.2.2.2 = 8 ∧ am_cg P 0 d y r.2.2.2.1 F σ Q)
  | _ => False
/-- one step -/
def am_Ph (g : Nat × Nat) (P : am_T0) (d y : Nat) (F : am_F) (σ : am_H) (Q : Option Value → am_H → Prop) : Prop :=
  ∃ r, am_find (am_code y) F.1 = some r ∧ ((∃ F', am_pl r F = some F' ∧ P d y F' σ Q) ∨ am_br r F (fun F' => P d y F' σ Q) ∨ am_hp g r F σ (fun F' σ' => P d y F' σ' Q) ∨ am_en y r F σ Q ∨ am_ca g P d y r F σ Q)
/-- a run that ends well -/
def AW (g : Nat × Nat) (d y : Nat) (F : am_F) (σ : am_H) (Q : Option Value → am_H → Prop) : Prop :=
  ∀ P : am_T0, (∀ d y F σ Q, am_Ph g P d y F σ Q → P d y F σ Q) → P d y F σ Q
theorem am_br_mono {r : am_R} {F : am_F} {K K' : am_F → Prop} (h : ∀ F, K F → K' F) (hb : am_br r F K) : am_br r F K' := by
  unfold am_br at hb ⊢
  split at hb
  · obtain ⟨x, st, h1, h2, h3⟩ := hb
    exact ⟨x, st, h1, fun q => h _ (h2 q), fun q => h _ (h3 q)⟩
  · obtain ⟨x, z, st, h1, h2, h3⟩ := hb
    exact ⟨x, z, st, h1, fun q => h _ (h2 q), fun q => h _ (h3 q)⟩
  · obtain ⟨v, st, h1, h2⟩ := hb
    exact ⟨v, st, h1, h2.imp (fun q => ⟨q.1, h _ q.2⟩) (fun q => ⟨q.1, h _ q.2⟩)⟩
  · obtain ⟨v, st, h1, h2⟩ := hb
    exact ⟨v, st, h1, h2.imp (fun q => ⟨q.1, h _ q.2⟩) (fun q => ⟨q.1, h _ q.2⟩)⟩
  · obtain ⟨x, st, t, h1, h2, h3⟩ := hb
    exact ⟨x, st, t, h1, h2, h _ h3⟩
  · obtain ⟨x, st, t, h1, h2, h3⟩ := hb
    exact ⟨x, st, t, h1, h2, h _ h3⟩
  · exact hb.elim
theorem am_hp_mono {g : Nat × Nat} {r : am_R} {F : am_F} {σ : am_H} {K K' : am_F → am_H → Prop} (h : ∀ F σ, K F σ → K' F σ) (hb : am_hp g r F σ K) : am_hp g r F σ K' := by
  unfold am_hp at hb ⊢
  split at hb
  · obtain ⟨a, st, fs, v, h1, h2, h3, h4⟩ := hb
    exact ⟨a, st, fs, v, h1, h2, h3, h _ _ h4⟩
  · obtain ⟨a, st, fs, v, h1, h2, h3, h4, h5, h6, h7⟩ := hb
    exact ⟨a, st, fs, v, h1, h2, h3, h4, h5, h6, h _ _ h7⟩
  · exact h _ _ hb
  · exact h _ _ hb
  · obtain ⟨n, st, h1, h2, h3, h4⟩ := hb
    exact ⟨n, st, h1, h2, h3, h _ _ h4⟩
  · obtain ⟨n, st, h1, h2, h3, h4⟩ := hb
    exact ⟨n, st, h1, h2, h3, h _ _ h4⟩
  · obtain ⟨a, st, t, n, x, h0, h1, h2, h3, h4⟩ := hb
    exact ⟨a, st, t, n, x, h0, h1, h2, h3, h _ _ h4⟩
  · obtain ⟨a, i, st, n, f, h1, h2, h3, h4⟩ := hb
    exact ⟨a, i, st, n, f, h1, h2, h3, h _ _ h4⟩
  · obtain ⟨a, i, st, t, n, f, h1, h2, h3, h4, h5⟩ := hb
    exact ⟨a, i, st, t, n, f, h1, h2, h3, h4, h _ _ h5⟩
  · obtain ⟨a, i, st, t, n, f, h1, h2, h3, h4, h5⟩ := hb
    exact ⟨a, i, st, t, n, f, h1, h2, h3, h4, h _ _ h5⟩
  · obtain ⟨a, i, x, st, n, f, h1, h2, h3, h4, h5⟩ := hb
    exact ⟨a, i, x, st, n, f, h1, h2, h3, h4, h _ _ h5⟩
  · obtain ⟨a, i, x, st, n, f, h1, h2, h3, h4⟩ := hb
    exact ⟨a, i, x, st, n, f, h1, h2, h3, h4.imp (fun q => ⟨q.1, h _ _ q.2⟩) (fun q => ⟨q.1, h _ _ q.2⟩)⟩
  · obtain ⟨a, i, v, st, t, n, f, ci, fs, h1, h2, h3, h4, h5, h6, h7⟩ := hb
    exact ⟨a, i, v, st, t, n, f, ci, fs, h1, h2, h3, h4, h5, h6, h _ _ h7⟩
  · obtain ⟨a, st, n, f, h1, h2, h3, h4⟩ := hb
    exact ⟨a, st, n, f, h1, h2, h3, h _ _ h4⟩
  · obtain ⟨x, z, st, h1, h2, h3⟩ := hb
    exact ⟨x, z, st, h1, h2, h _ _ h3⟩
  · obtain ⟨x, z, st, h1, h2, h3⟩ := hb
    exact ⟨x, z, st, h1, h2, h _ _ h3⟩
  · exact hb.elim
theorem am_cg_mono {P P' : am_T0} (h : ∀ d y F σ Q, P d y F σ Q → P' d y F σ Q) {k d y y' : Nat} {F : am_F} {σ : am_H} {Q : Option Value → am_H → Prop} (hb : am_cg P k d y y' F σ Q) : am_cg P' k d y y' F σ Q := by
  obtain ⟨d', vs, rest, Q', h1, h2, h3, h4, h5, h6, h7, h8⟩ := hb
  exact ⟨d', vs, rest, Q', h1, h2, h3, h4, h5, h6, h _ _ _ _ _ h7, fun v σ' q => h _ _ _ _ _ (h8 v σ' q)⟩
theorem am_ca_mono {g : Nat × Nat} {P P' : am_T0} (h : ∀ d y F σ Q, P d y F σ Q → P' d y F σ Q) {d y : Nat} {r : am_R} {F : am_F} {σ : am_H} {Q : Option Value → am_H → Prop} (hb : am_ca g P d y r F σ Q) : am_ca g P' d y r F σ Q := by
  unfold am_ca at hb ⊢
  split at hb
  · rcases hb with ⟨h0, a, rest, h1, h2, h3, h4⟩ | ⟨h0, h1⟩
    · exact Or.inl ⟨h0, a, rest, h1, h2, h3, h _ _ _ _ _ h4⟩
    · exact Or.inr ⟨h0, am_cg_mono h h1⟩
  · rcases hb with ⟨h0, a, n, f, rest, h1, h2, h3, h4, h5, h6, h7⟩ | ⟨h0, h1⟩
    · exact Or.inl ⟨h0, a, n, f, rest, h1, h2, h3, h4, h5, h6, h _ _ _ _ _ h7⟩
    · exact Or.inr ⟨h0, am_cg_mono h h1⟩
  · rcases hb with ⟨h0, n, dp, sp, a, a0, n0, n1, f, f1, rest, h1, h2, h3, h4, h5, h6, h7, h8, h9, ha, hb, hc, hd, he⟩ | ⟨h0, x, z, rest, h1, h2, h3, h4⟩ | ⟨h0, h1, h2⟩
    · exact Or.inl ⟨h0, n, dp, sp, a, a0, n0, n1, f, f1, rest, h1, h2, h3, h4, h5, h6, h7, h8, h9, ha, hb, hc, hd, h _ _ _ _ _ he⟩
    · exact Or.inr (Or.inl ⟨h0, x, z, rest, h1, h2, h3, h _ _ _ _ _ h4⟩)
    · exact Or.inr (Or.inr ⟨h0, h1, am_cg_mono h h2⟩)
  · exact hb.elim
theorem am_Ph_mono {g : Nat × Nat} {P P' : am_T0} (h : ∀ d y F σ Q, P d y F σ Q → P' d y F σ Q) {d y : Nat} {F : am_F} {σ : am_H} {Q : Option Value → am_H → Prop} (hb : am_Ph g P d y F σ Q) : am_Ph g P' d y F σ Q := by
  obtain ⟨r, hr, h1⟩ := hb
  refine ⟨r, hr, ?_⟩
  rcases h1 with ⟨F', h1, h2⟩ | h1 | h1 | h1 | h1
  · exact Or.inl ⟨F', h1, h _ _ _ _ _ h2⟩
  · exact Or.inr (Or.inl (am_br_mono (fun F' q => h _ _ _ _ _ q) h1))
  · exact Or.inr (Or.inr (Or.inl (am_hp_mono (fun F' σ' q => h _ _ _ _ _ q) h1)))
  · exact Or.inr (Or.inr (Or.inr (Or.inl h1)))
  · exact Or.inr (Or.inr (Or.inr (Or.inr (am_ca_mono h h1))))
theorem AW.mk {g : Nat × Nat} {d y : Nat} {F : am_F} {σ : am_H} {Q : Option Value → am_H → Prop} (h : am_Ph g (AW g) d y F σ Q) : AW g d y F σ Q := fun P hP => hP _ _ _ _ _ (am_Ph_mono (fun _ _ _ _ _ q => q P hP) h)
theorem AW.ind {g : Nat × Nat} (P : am_T0) (hP : ∀ d y F σ Q, am_Ph g P d y F σ Q → P d y F σ Q) {d y : Nat} {F : am_F} {σ : am_H} {Q : Option Value → am_H → Prop} (h : AW g d y F σ Q) : P d y F σ Q := h P hP
end
section
def am_runp (C : List (Nat × am_R)) : Nat → am_F → Option am_F
  | 0, F => some F
  | n + 1, F => match am_find C F.1 with
    | some r => match am_pl r F with
      | some F' => am_runp C n F'
      | none => none
    | none => none
theorem aw_run {g : Nat × Nat} {d y : Nat} {F : am_F} {σ : am_H} {Q : Option Value → am_H → Prop} (k : Nat) {F' : am_F} (h : am_runp (am_code y) k F = some F') (hk : AW g d y F' σ Q) : AW g d y F σ Q := by
  induction k generalizing F with
  | zero =>
    cases h
    exact hk
  | succ n ih =>
    simp only [am_runp] at h
    split at h
    · rename_i r hr
      split at h
      · rename_i F1 h1
        exact AW.mk ⟨r, hr, Or.inl ⟨F1, h1, ih h⟩⟩
      · cases h
    · cases h
theorem aw_ceq {g : Nat × Nat} {d y pc : Nat} {L : am_L} {st : List Value} {σ : am_H} {Q : Option Value → am_H → Prop} {x z : Int32} {o : Int} {v : Value} {t b : Nat} (hr : am_find (am_code y) pc = some (.if_icmp .eq o, 3, v, t, b)) (h1 : x = z → AW g d y (t, L, st) σ Q) (h2 : ¬ (x = z) → AW g d y (pc + 3, L, st) σ Q) : AW g d y (pc, L, .int z :: .int x :: st) σ Q := AW.mk ⟨_, hr, Or.inr (Or.inl ⟨x, z, st, rfl, h1, h2⟩)⟩
theorem aw_zeq {g : Nat × Nat} {d y pc : Nat} {L : am_L} {st : List Value} {σ : am_H} {Q : Option Value → am_H → Prop} {x : Int32} {o : Int} {v : Value} {t b : Nat} (hr : am_find (am_code y) pc = some (.ifCond .eq o, 3, v, t, b)) (h1 : x = 0 → AW g d y (t, L, st) σ Q) (h2 : ¬ (x = 0) → AW g d y (pc + 3, L, st) σ Q) : AW g d y (pc, L, .int x :: st) σ Q := AW.mk ⟨_, hr, Or.inr (Or.inl ⟨x, st, rfl, h1, h2⟩)⟩
theorem aw_cne {g : Nat × Nat} {d y pc : Nat} {L : am_L} {st : List Value} {σ : am_H} {Q : Option Value → am_H → Prop} {x z : Int32} {o : Int} {v : Value} {t b : Nat} (hr : am_find (am_code y) pc = some (.if_icmp .ne o, 3, v, t, b)) (h1 : ¬ x = z → AW g d y (t, L, st) σ Q) (h2 : ¬ (¬ x = z) → AW g d y (pc + 3, L, st) σ Q) : AW g d y (pc, L, .int z :: .int x :: st) σ Q := AW.mk ⟨_, hr, Or.inr (Or.inl ⟨x, z, st, rfl, h1, h2⟩)⟩
theorem aw_zne {g : Nat × Nat} {d y pc : Nat} {L : am_L} {st : List Value} {σ : am_H} {Q : Option Value → am_H → Prop} {x : Int32} {o : Int} {v : Value} {t b : Nat} (hr : am_find (am_code y) pc = some (.ifCond .ne o, 3, v, t, b)) (h1 : ¬ x = 0 → AW g d y (t, L, st) σ Q) (h2 : ¬ (¬ x = 0) → AW g d y (pc + 3, L, st) σ Q) : AW g d y (pc, L, .int x :: st) σ Q := AW.mk ⟨_, hr, Or.inr (Or.inl ⟨x, st, rfl, h1, h2⟩)⟩
theorem aw_clt {g : Nat × Nat} {d y pc : Nat} {L : am_L} {st : List Value} {σ : am_H} {Q : Option Value → am_H → Prop} {x z : Int32} {o : Int} {v : Value} {t b : Nat} (hr : am_find (am_code y) pc = some (.if_icmp .lt o, 3, v, t, b)) (h1 : x < z → AW g d y (t, L, st) σ Q) (h2 : ¬ (x < z) → AW g d y (pc + 3, L, st) σ Q) : AW g d y (pc, L, .int z :: .int x :: st) σ Q := AW.mk ⟨_, hr, Or.inr (Or.inl ⟨x, z, st, rfl, h1, h2⟩)⟩
theorem aw_zlt {g : Nat × Nat} {d y pc : Nat} {L : am_L} {st : List Value} {σ : am_H} {Q : Option Value → am_H → Prop} {x : Int32} {o : Int} {v : Value} {t b : Nat} (hr : am_find (am_code y) pc = some (.ifCond .lt o, 3, v, t, b)) (h1 : x < 0 → AW g d y (t, L, st) σ Q) (h2 : ¬ (x < 0) → AW g d y (pc + 3, L, st) σ Q) : AW g d y (pc, L, .int x :: st) σ Q := AW.mk ⟨_, hr, Or.inr (Or.inl ⟨x, st, rfl, h1, h2⟩)⟩
theorem aw_cge {g : Nat × Nat} {d y pc : Nat} {L : am_L} {st : List Value} {σ : am_H} {Q : Option Value → am_H → Prop} {x z : Int32} {o : Int} {v : Value} {t b : Nat} (hr : am_find (am_code y) pc = some (.if_icmp .ge o, 3, v, t, b)) (h1 : z ≤ x → AW g d y (t, L, st) σ Q) (h2 : ¬ (z ≤ x) → AW g d y (pc + 3, L, st) σ Q) : AW g d y (pc, L, .int z :: .int x :: st) σ Q := AW.mk ⟨_, hr, Or.inr (Or.inl ⟨x, z, st, rfl, h1, h2⟩)⟩
theorem aw_zge {g : Nat × Nat} {d y pc : Nat} {L : am_L} {st : List Value} {σ : am_H} {Q : Option Value → am_H → Prop} {x : Int32} {o : Int} {v : Value} {t b : Nat} (hr : am_find (am_code y) pc = some (.ifCond .ge o, 3, v, t, b)) (h1 : 0 ≤ x → AW g d y (t, L, st) σ Q) (h2 : ¬ (0 ≤ x) → AW g d y (pc + 3, L, st) σ Q) : AW g d y (pc, L, .int x :: st) σ Q := AW.mk ⟨_, hr, Or.inr (Or.inl ⟨x, st, rfl, h1, h2⟩)⟩
theorem aw_cgt {g : Nat × Nat} {d y pc : Nat} {L : am_L} {st : List Value} {σ : am_H} {Q : Option Value → am_H → Prop} {x z : Int32} {o : Int} {v : Value} {t b : Nat} (hr : am_find (am_code y) pc = some (.if_icmp .gt o, 3, v, t, b)) (h1 : z < x → AW g d y (t, L, st) σ Q) (h2 : ¬ (z < x) → AW g d y (pc + 3, L, st) σ Q) : AW g d y (pc, L, .int z :: .int x :: st) σ Q := AW.mk ⟨_, hr, Or.inr (Or.inl ⟨x, z, st, rfl, h1, h2⟩)⟩
theorem aw_zgt {g : Nat × Nat} {d y pc : Nat} {L : am_L} {st : List Value} {σ : am_H} {Q : Option Value → am_H → Prop} {x : Int32} {o : Int} {v : Value} {t b : Nat} (hr : am_find (am_code y) pc = some (.ifCond .gt o, 3, v, t, b)) (h1 : 0 < x → AW g d y (t, L, st) σ Q) (h2 : ¬ (0 < x) → AW g d y (pc + 3, L, st) σ Q) : AW g d y (pc, L, .int x :: st) σ Q := AW.mk ⟨_, hr, Or.inr (Or.inl ⟨x, st, rfl, h1, h2⟩)⟩
theorem aw_cle {g : Nat × Nat} {d y pc : Nat} {L : am_L} {st : List Value} {σ : am_H} {Q : Option Value → am_H → Prop} {x z : Int32} {o : Int} {v : Value} {t b : Nat} (hr : am_find (am_code y) pc = some (.if_icmp .le o, 3, v, t, b)) (h1 : x ≤ z → AW g d y (t, L, st) σ Q) (h2 : ¬ (x ≤ z) → AW g d y (pc + 3, L, st) σ Q) : AW g d y (pc, L, .int z :: .int x :: st) σ Q := AW.mk ⟨_, hr, Or.inr (Or.inl ⟨x, z, st, rfl, h1, h2⟩)⟩
theorem aw_zle {g : Nat × Nat} {d y pc : Nat} {L : am_L} {st : List Value} {σ : am_H} {Q : Option Value → am_H → Prop} {x : Int32} {o : Int} {v : Value} {t b : Nat} (hr : am_find (am_code y) pc = some (.ifCond .le o, 3, v, t, b)) (h1 : x ≤ 0 → AW g d y (t, L, st) σ Q) (h2 : ¬ (x ≤ 0) → AW g d y (pc + 3, L, st) σ Q) : AW g d y (pc, L, .int x :: st) σ Q := AW.mk ⟨_, hr, Or.inr (Or.inl ⟨x, st, rfl, h1, h2⟩)⟩
theorem aw_ifnull_n {g : Nat × Nat} {d y pc : Nat} {L : am_L} {st : List Value} {σ : am_H} {Q : Option Value → am_H → Prop} {o : Int} {v : Value} {t b : Nat} (hr : am_find (am_code y) pc = some (.ifnull o, 3, v, t, b)) (h : AW g d y (t, L, st) σ Q) : AW g d y (pc, L, .null :: st) σ Q := AW.mk ⟨_, hr, Or.inr (Or.inl ⟨_, st, rfl, Or.inl ⟨rfl, h⟩⟩)⟩
theorem aw_ifnull_r {g : Nat × Nat} {d y pc : Nat} {L : am_L} {st : List Value} {σ : am_H} {Q : Option Value → am_H → Prop} {a : Nat} {o : Int} {v : Value} {t b : Nat} (hr : am_find (am_code y) pc = some (.ifnull o, 3, v, t, b)) (h : AW g d y (pc + 3, L, st) σ Q) : AW g d y (pc, L, .ref a :: st) σ Q := AW.mk ⟨_, hr, Or.inr (Or.inl ⟨_, st, rfl, Or.inr ⟨⟨a, rfl⟩, h⟩⟩)⟩
theorem aw_ifnon_n {g : Nat × Nat} {d y pc : Nat} {L : am_L} {st : List Value} {σ : am_H} {Q : Option Value → am_H → Prop} {o : Int} {v : Value} {t b : Nat} (hr : am_find (am_code y) pc = some (.ifnonnull o, 3, v, t, b)) (h : AW g d y (pc + 3, L, st) σ Q) : AW g d y (pc, L, .null :: st) σ Q := AW.mk ⟨_, hr, Or.inr (Or.inl ⟨_, st, rfl, Or.inl ⟨rfl, h⟩⟩)⟩
theorem aw_ifnon_r {g : Nat × Nat} {d y pc : Nat} {L : am_L} {st : List Value} {σ : am_H} {Q : Option Value → am_H → Prop} {a : Nat} {o : Int} {v : Value} {t b : Nat} (hr : am_find (am_code y) pc = some (.ifnonnull o, 3, v, t, b)) (h : AW g d y (t, L, st) σ Q) : AW g d y (pc, L, .ref a :: st) σ Q := AW.mk ⟨_, hr, Or.inr (Or.inl ⟨_, st, rfl, Or.inr ⟨⟨a, rfl⟩, h⟩⟩)⟩
theorem aw_tsw {g : Nat × Nat} {d y pc : Nat} {L : am_L} {st : List Value} {σ : am_H} {Q : Option Value → am_H → Prop} {x : Int32} {dd lo hi : Int} {offs : Array Int} {len : Nat} {v : Value} {t0 b : Nat} (t : Nat) (hr : am_find (am_code y) pc = some (.tableswitch dd lo hi offs, len, v, t0, b)) (ht : am_tsw pc dd lo hi offs x t) (h : AW g d y (t, L, st) σ Q) : AW g d y (pc, L, .int x :: st) σ Q := AW.mk ⟨_, hr, Or.inr (Or.inl ⟨x, st, t, rfl, ht, h⟩)⟩
theorem aw_lsw {g : Nat × Nat} {d y pc : Nat} {L : am_L} {st : List Value} {σ : am_H} {Q : Option Value → am_H → Prop} {x : Int32} {dd : Int} {ps : Array (Int × Int)} {len : Nat} {v : Value} {t0 b : Nat} (t : Nat) (hr : am_find (am_code y) pc = some (.lookupswitch dd ps, len, v, t0, b)) (ht : am_lsw pc dd ps x t) (h : AW g d y (t, L, st) σ Q) : AW g d y (pc, L, .int x :: st) σ Q := AW.mk ⟨_, hr, Or.inr (Or.inl ⟨x, st, t, rfl, ht, h⟩)⟩
theorem aw_get {g : Nat × Nat} {d y pc : Nat} {L : am_L} {st : List Value} {σ : am_H} {Q : Option Value → am_H → Prop} {a i len ci k : Nat} {v0 v : Value} {fs : List Value} (hr : am_find (am_code y) pc = some (.getfield i, len, v0, ci, k)) (hc : σ.1 a = some (.inr (ci, fs))) (hv : fs[k]? = some v) (h : AW g d y (pc + 3, L, v :: st) σ Q) : AW g d y (pc, L, .ref a :: st) σ Q := AW.mk ⟨_, hr, Or.inr (Or.inr (Or.inl ⟨a, st, fs, v, rfl, hc, hv, h⟩))⟩
theorem aw_put {g : Nat × Nat} {d y pc : Nat} {L : am_L} {st : List Value} {σ : am_H} {Q : Option Value → am_H → Prop} {a i len ci k : Nat} {v0 v : Value} {fs : List Value} (hr : am_find (am_code y) pc = some (.putfield i, len, v0, ci, k)) (ha : g.1 ≤ a) (hc : σ.1 a = some (.inr (ci, fs))) (hl : k < fs.length) (hn : narrow (am_ty ci k) v = v) (hf : fits (am_ty ci k) v = true) (h : AW g d y (pc + 3, L, st) (am_set σ a (.inr (ci, fs.set k v))) Q) : AW g d y (pc, L, v :: .ref a :: st) σ Q := AW.mk ⟨_, hr, Or.inr (Or.inr (Or.inl ⟨a, st, fs, v, rfl, ha, hc, hl, hn, hf, h⟩))⟩
theorem aw_sta {g : Nat × Nat} {d y pc : Nat} {L : am_L} {st : List Value} {σ : am_H} {Q : Option Value → am_H → Prop} {i len t b : Nat} {v0 : Value} (hr : am_find (am_code y) pc = some (.getstatic i, len, v0, t, b)) (h : AW g d y (pc + 3, L, .ref g.2 :: st) σ Q) : AW g d y (pc, L, st) σ Q := AW.mk ⟨_, hr, Or.inr (Or.inr (Or.inl h))⟩
theorem aw_new {g : Nat × Nat} {d y pc : Nat} {L : am_L} {st : List Value} {σ : am_H} {Q : Option Value → am_H → Prop} {i len ci b : Nat} {v0 : Value} (hr : am_find (am_code y) pc = some (.new i, len, v0, ci, b)) (h : AW g d y (pc + 3, L, .ref σ.2.1 :: st) (am_psh σ (.inr (ci, am_def ci)) (am_nf ci)) Q) : AW g d y (pc, L, st) σ Q := AW.mk ⟨_, hr, Or.inr (Or.inr (Or.inl h))⟩
theorem aw_nwa {g : Nat × Nat} {d y pc : Nat} {L : am_L} {st : List Value} {σ : am_H} {Q : Option Value → am_H → Prop} {len t b : Nat} {ty : ArrayType} {v0 : Value} {n : Int32} (hr : am_find (am_code y) pc = some (.newarray ty, len, v0, t, b)) (hn : ¬ n < 0) (hm : n.toNatClampNeg ≤ 65536) (h : AW g d y (pc + 2, L, .ref σ.2.1 :: st) (am_psh σ (.inl (t, n.toNatClampNeg, .inl (fun _ => 0))) n.toNatClampNeg) Q) : AW g d y (pc, L, .int n :: st) σ Q := AW.mk ⟨_, hr, Or.inr (Or.inr (Or.inl ⟨n, st, rfl, hn, hm, h⟩))⟩
theorem aw_nwq {g : Nat × Nat} {d y pc : Nat} {L : am_L} {st : List Value} {σ : am_H} {Q : Option Value → am_H → Prop} {i len t b : Nat} {v0 : Value} {n : Int32} (hr : am_find (am_code y) pc = some (.anewarray i, len, v0, t, b)) (hn : ¬ n < 0) (hm : n.toNatClampNeg ≤ 65536) (h : AW g d y (pc + 3, L, .ref σ.2.1 :: st) (am_psh σ (.inl (t, n.toNatClampNeg, .inr (.inr (.inr (.inr (fun _ => none)))))) n.toNatClampNeg) Q) : AW g d y (pc, L, .int n :: st) σ Q := AW.mk ⟨_, hr, Or.inr (Or.inr (Or.inl ⟨n, st, rfl, hn, hm, h⟩))⟩
theorem aw_len {g : Nat × Nat} {d y pc : Nat} {L : am_L} {st : List Value} {σ : am_H} {Q : Option Value → am_H → Prop} {a len t n b0 b1 : Nat} {v0 : Value} {f : Nat → Int32} (hr : am_find (am_code y) pc = some (.arraylength, len, v0, b0, b1)) (hc : σ.1 a = some (.inl (t, n, .inl f))) (ht : t < 5) (h : AW g d y (pc + 1, L, .int (Int32.ofNat n) :: st) σ Q) : AW g d y (pc, L, .ref a :: st) σ Q := AW.mk ⟨_, hr, Or.inr (Or.inr (Or.inl ⟨a, st, t, n, _, rfl, ht, Or.inl ⟨f, rfl⟩, hc, h⟩))⟩
theorem aw_lenq {g : Nat × Nat} {d y pc : Nat} {L : am_L} {st : List Value} {σ : am_H} {Q : Option Value → am_H → Prop} {a len t n b0 b1 : Nat} {v0 : Value} {f : Nat → Option Nat} (hr : am_find (am_code y) pc = some (.arraylength, len, v0, b0, b1)) (hc : σ.1 a = some (.inl (t, n, .inr (.inr (.inr (.inr f)))))) (ht : t < 5) (h : AW g d y (pc + 1, L, .int (Int32.ofNat n) :: st) σ Q) : AW g d y (pc, L, .ref a :: st) σ Q := AW.mk ⟨_, hr, Or.inr (Or.inr (Or.inl ⟨a, st, t, n, _, rfl, ht, Or.inr ⟨f, rfl⟩, hc, h⟩))⟩
theorem aw_iald {g : Nat × Nat} {d y pc : Nat} {L : am_L} {st : List Value} {σ : am_H} {Q : Option Value → am_H → Prop} {a len n b0 b1 : Nat} {v0 : Value} {i : Int32} {f : Nat → Int32} (hr : am_find (am_code y) pc = some (.iaload, len, v0, b0, b1)) (hc : σ.1 a = some (.inl (0, n, .inl f))) (hi : vp_in i n) (h : AW g d y (pc + 1, L, .int (f i.toNatClampNeg) :: st) σ Q) : AW g d y (pc, L, .int i :: .ref a :: st) σ Q := AW.mk ⟨_, hr, Or.inr (Or.inr (Or.inl ⟨a, i, st, n, f, rfl, hc, hi, h⟩))⟩
theorem aw_bald {g : Nat × Nat} {d y pc : Nat} {L : am_L} {st : List Value} {σ : am_H} {Q : Option Value → am_H → Prop} {a len n b0 b1 : Nat} {v0 : Value} {i : Int32} {f : Nat → Int32} (hr : am_find (am_code y) pc = some (.baload, len, v0, b0, b1)) (hc : σ.1 a = some (.inl (1, n, .inl f))) (hi : vp_in i n) (h : AW g d y (pc + 1, L, .int (f i.toNatClampNeg) :: st) σ Q) : AW g d y (pc, L, .int i :: .ref a :: st) σ Q := AW.mk ⟨_, hr, Or.inr (Or.inr (Or.inl ⟨a, i, st, 1, n, f, rfl, Or.inl rfl, hc, hi, h⟩))⟩
theorem aw_zald {g : Nat × Nat} {d y pc : Nat} {L : am_L} {st : List Value} {σ : am_H} {Q : Option Value → am_H → Prop} {a len n b0 b1 : Nat} {v0 : Value} {i : Int32} {f : Nat → Int32} (hr : am_find (am_code y) pc = some (.baload, len, v0, b0, b1)) (hc : σ.1 a = some (.inl (2, n, .inl f))) (hi : vp_in i n) (h : AW g d y (pc + 1, L, .int (f i.toNatClampNeg) :: st) σ Q) : AW g d y (pc, L, .int i :: .ref a :: st) σ Q := AW.mk ⟨_, hr, Or.inr (Or.inr (Or.inl ⟨a, i, st, 2, n, f, rfl, Or.inr rfl, hc, hi, h⟩))⟩
theorem aw_aald {g : Nat × Nat} {d y pc : Nat} {L : am_L} {st : List Value} {σ : am_H} {Q : Option Value → am_H → Prop} {a len t n b0 b1 : Nat} {v0 : Value} {i : Int32} {f : Nat → Option Nat} (hr : am_find (am_code y) pc = some (.aaload, len, v0, b0, b1)) (ht : t = 3 ∨ t = 4) (hc : σ.1 a = some (.inl (t, n, .inr (.inr (.inr (.inr f)))))) (hi : vp_in i n) (h : AW g d y (pc + 1, L, va_rf (f i.toNatClampNeg) :: st) σ Q) : AW g d y (pc, L, .int i :: .ref a :: st) σ Q := AW.mk ⟨_, hr, Or.inr (Or.inr (Or.inl ⟨a, i, st, t, n, f, rfl, ht, hc, hi, h⟩))⟩
theorem aw_iast {g : Nat × Nat} {d y pc : Nat} {L : am_L} {st : List Value} {σ : am_H} {Q : Option Value → am_H → Prop} {a len n b0 b1 : Nat} {v0 : Value} {i x : Int32} {f : Nat → Int32} (hr : am_find (am_code y) pc = some (.iastore, len, v0, b0, b1)) (ha : g.1 ≤ a) (hc : σ.1 a = some (.inl (0, n, .inl f))) (hi : vp_in i n) (h : AW g d y (pc + 1, L, st) (am_set σ a (.inl (0, n, .inl (upd f i.toNatClampNeg x)))) Q) : AW g d y (pc, L, .int x :: .int i :: .ref a :: st) σ Q := AW.mk ⟨_, hr, Or.inr (Or.inr (Or.inl ⟨a, i, x, st, n, f, rfl, ha, hc, hi, h⟩))⟩
theorem aw_bast {g : Nat × Nat} {d y pc : Nat} {L : am_L} {st : List Value} {σ : am_H} {Q : Option Value → am_H → Prop} {a len n b0 b1 : Nat} {v0 : Value} {i x : Int32} {f : Nat → Int32} (hr : am_find (am_code y) pc = some (.bastore, len, v0, b0, b1)) (ha : g.1 ≤ a) (hc : σ.1 a = some (.inl (1, n, .inl f))) (hi : vp_in i n) (h : AW g d y (pc + 1, L, st) (am_set σ a (.inl (1, n, .inl (upd f i.toNatClampNeg (vp_nar .byte x))))) Q) : AW g d y (pc, L, .int x :: .int i :: .ref a :: st) σ Q := AW.mk ⟨_, hr, Or.inr (Or.inr (Or.inl ⟨a, i, x, st, n, f, rfl, ha, hi, Or.inl ⟨hc, h⟩⟩))⟩
theorem aw_zast {g : Nat × Nat} {d y pc : Nat} {L : am_L} {st : List Value} {σ : am_H} {Q : Option Value → am_H → Prop} {a len n b0 b1 : Nat} {v0 : Value} {i x : Int32} {f : Nat → Int32} (hr : am_find (am_code y) pc = some (.bastore, len, v0, b0, b1)) (ha : g.1 ≤ a) (hc : σ.1 a = some (.inl (2, n, .inl f))) (hi : vp_in i n) (h : AW g d y (pc + 1, L, st) (am_set σ a (.inl (2, n, .inl (upd f i.toNatClampNeg (vp_nar .boolean x))))) Q) : AW g d y (pc, L, .int x :: .int i :: .ref a :: st) σ Q := AW.mk ⟨_, hr, Or.inr (Or.inr (Or.inl ⟨a, i, x, st, n, f, rfl, ha, hi, Or.inr ⟨hc, h⟩⟩))⟩
theorem aw_aast {g : Nat × Nat} {d y pc : Nat} {L : am_L} {st : List Value} {σ : am_H} {Q : Option Value → am_H → Prop} {a len t n b0 b1 w ci : Nat} {v0 : Value} {i : Int32} {f : Nat → Option Nat} {fs : List Value} (hr : am_find (am_code y) pc = some (.aastore, len, v0, b0, b1)) (ha : g.1 ≤ a) (hc : σ.1 a = some (.inl (t, n, .inr (.inr (.inr (.inr f)))))) (he : am_el t = some ci) (hw : σ.1 w = some (.inr (ci, fs))) (hi : vp_in i n) (h : AW g d y (pc + 1, L, st) (am_set σ a (.inl (t, n, .inr (.inr (.inr (.inr (va_up f i.toNatClampNeg (some w)))))))) Q) : AW g d y (pc, L, .ref w :: .int i :: .ref a :: st) σ Q := AW.mk ⟨_, hr, Or.inr (Or.inr (Or.inl ⟨a, i, w, st, t, n, f, ci, fs, rfl, ha, hc, he, hw, hi, h⟩))⟩
theorem aw_div {g : Nat × Nat} {d y pc : Nat} {L : am_L} {st : List Value} {σ : am_H} {Q : Option Value → am_H → Prop} {len b0 b1 : Nat} {v0 : Value} {x z : Int32} (hr : am_find (am_code y) pc = some (.idiv, len, v0, b0, b1)) (hz : ¬ z = 0) (h : AW g d y (pc + 1, L, .int (x / z) :: st) σ Q) : AW g d y (pc, L, .int z :: .int x :: st) σ Q := AW.mk ⟨_, hr, Or.inr (Or.inr (Or.inl ⟨x, z, st, rfl, hz, h⟩))⟩
theorem aw_rem {g : Nat × Nat} {d y pc : Nat} {L : am_L} {st : List Value} {σ : am_H} {Q : Option Value → am_H → Prop} {len b0 b1 : Nat} {v0 : Value} {x z : Int32} (hr : am_find (am_code y) pc = some (.irem, len, v0, b0, b1)) (hz : ¬ z = 0) (h : AW g d y (pc + 1, L, .int (x - x / z * z) :: st) σ Q) : AW g d y (pc, L, .int z :: .int x :: st) σ Q := AW.mk ⟨_, hr, Or.inr (Or.inr (Or.inl ⟨x, z, st, rfl, hz, h⟩))⟩
theorem aw_iret {g : Nat × Nat} {d y pc : Nat} {L : am_L} {σ : am_H} {Q : Option Value → am_H → Prop} {len b0 b1 : Nat} {v0 : Value} {x : Int32} (hr : am_find (am_code y) pc = some (.ireturn, len, v0, b0, b1)) (ht : am_rtok y (some (.int x))) (h : Q (some (.int x)) σ) : AW g d y (pc, L, [.int x]) σ Q := AW.mk ⟨_, hr, Or.inr (Or.inr (Or.inr (Or.inl ⟨x, rfl, ht, h⟩)))⟩
theorem aw_lret {g : Nat × Nat} {d y pc : Nat} {L : am_L} {σ : am_H} {Q : Option Value → am_H → Prop} {len b0 b1 : Nat} {v0 : Value} {x : Int64} (hr : am_find (am_code y) pc = some (.lreturn, len, v0, b0, b1)) (ht : am_rtok y (some (.long x))) (h : Q (some (.long x)) σ) : AW g d y (pc, L, [.long x]) σ Q := AW.mk ⟨_, hr, Or.inr (Or.inr (Or.inr (Or.inl ⟨x, rfl, ht, h⟩)))⟩
theorem aw_aret {g : Nat × Nat} {d y pc : Nat} {L : am_L} {σ : am_H} {Q : Option Value → am_H → Prop} {len b0 b1 : Nat} {v0 : Value} {a : Nat} (hr : am_find (am_code y) pc = some (.areturn, len, v0, b0, b1)) (ht : am_rtok y (some (.ref a))) (h : Q (some (.ref a)) σ) : AW g d y (pc, L, [.ref a]) σ Q := AW.mk ⟨_, hr, Or.inr (Or.inr (Or.inr (Or.inl ⟨_, rfl, Or.inr ⟨a, rfl⟩, ht, h⟩)))⟩
theorem aw_nret {g : Nat × Nat} {d y pc : Nat} {L : am_L} {σ : am_H} {Q : Option Value → am_H → Prop} {len b0 b1 : Nat} {v0 : Value} (hr : am_find (am_code y) pc = some (.areturn, len, v0, b0, b1)) (ht : am_rtok y (some .null)) (h : Q (some .null) σ) : AW g d y (pc, L, [.null]) σ Q := AW.mk ⟨_, hr, Or.inr (Or.inr (Or.inr (Or.inl ⟨_, rfl, Or.inl rfl, ht, h⟩)))⟩
theorem aw_vret {g : Nat × Nat} {d y pc : Nat} {L : am_L} {σ : am_H} {Q : Option Value → am_H → Prop} {len b0 b1 : Nat} {v0 : Value} (hr : am_find (am_code y) pc = some (.return_, len, v0, b0, b1)) (ht : am_rtok y none) (h : Q none σ) : AW g d y (pc, L, []) σ Q := AW.mk ⟨_, hr, Or.inr (Or.inr (Or.inr (Or.inl ⟨rfl, ht, h⟩)))⟩
theorem aw_cs {g : Nat × Nat} {d y pc : Nat} {L : am_L} {st : List Value} {σ : am_H} {Q : Option Value → am_H → Prop} (vs rest : List Value) (Q' : Option Value → am_H → Prop) {y' i len b : Nat} {v0 : Value} (hr : am_find (am_code y) pc = some (.invokestatic i, len, v0, y', b)) (hb : ¬ b = 7 ∧ ¬ b = 8) (hst : st = vs.reverse ++ rest) (hlen : vs.length = am_ar y') (hsum : (rest.map fun v => v.category).sum ≤ 8) (hent : (am_ent vs).length ≤ am_ml y') (h : AW g d y' (0, am_pad (am_ent vs) (am_ml y'), []) σ Q') (k : ∀ v σ', Q' v σ' → AW g (d + 1) y (pc + 3, L, v.toList ++ rest) σ' Q) : AW g (d + 1) y (pc, L, st) σ Q := AW.mk ⟨_, hr, Or.inr (Or.inr (Or.inr (Or.inr (Or.inr (Or.inr ⟨hb.1, hb.2, d, vs, rest, Q', rfl, hst, hlen, hsum, hent, Or.inl rfl, h, k⟩)))))⟩
theorem aw_ci {g : Nat × Nat} {d y pc : Nat} {L : am_L} {st : List Value} {σ : am_H} {Q : Option Value → am_H → Prop} (vs rest : List Value) (Q' : Option Value → am_H → Prop) {y' i len b : Nat} {v0 : Value} {a : Nat} {As : List Value} (hr : am_find (am_code y) pc = some (.invokespecial i, len, v0, y', b)) (hb : ¬ b = 9) (hvs : vs = .ref a :: As) (hst : st = vs.reverse ++ rest) (hlen : vs.length = am_ar y') (hsum : (rest.map fun v => v.category).sum ≤ 8) (hent : (am_ent vs).length ≤ am_ml y') (h : AW g d y' (0, am_pad (am_ent vs) (am_ml y'), []) σ Q') (k : ∀ v σ', Q' v σ' → AW g (d + 1) y (pc + 3, L, v.toList ++ rest) σ' Q) : AW g (d + 1) y (pc, L, st) σ Q := AW.mk ⟨_, hr, Or.inr (Or.inr (Or.inr (Or.inr (Or.inr ⟨hb, d, vs, rest, Q', rfl, hst, hlen, hsum, hent, Or.inr (Or.inl ⟨rfl, a, As, hvs⟩), h, k⟩))))⟩
theorem aw_cv {g : Nat × Nat} {d y pc : Nat} {L : am_L} {st : List Value} {σ : am_H} {Q : Option Value → am_H → Prop} (vs rest : List Value) (Q' : Option Value → am_H → Prop) {y' i len b : Nat} {v0 : Value} {a : Nat} {As fs : List Value} (hr : am_find (am_code y) pc = some (.invokevirtual i, len, v0, y', b)) (hb : ¬ b = 6) (hvs : vs = .ref a :: As) (hc : σ.1 a = some (.inr (am_ko y', fs))) (hst : st = vs.reverse ++ rest) (hlen : vs.length = am_ar y') (hsum : (rest.map fun v => v.category).sum ≤ 8) (hent : (am_ent vs).length ≤ am_ml y') (h : AW g d y' (0, am_pad (am_ent vs) (am_ml y'), []) σ Q') (k : ∀ v σ', Q' v σ' → AW g (d + 1) y (pc + 3, L, v.toList ++ rest) σ' Q) : AW g (d + 1) y (pc, L, st) σ Q := AW.mk ⟨_, hr, Or.inr (Or.inr (Or.inr (Or.inr (Or.inr ⟨hb, d, vs, rest, Q', rfl, hst, hlen, hsum, hent, Or.inr (Or.inr ⟨rfl, a, As, fs, hvs, hc⟩), h, k⟩))))⟩
theorem aw_obj {g : Nat × Nat} {d y pc : Nat} {L : am_L} {st : List Value} {σ : am_H} {Q : Option Value → am_H → Prop} {a i len t : Nat} {v0 : Value} (hr : am_find (am_code y) pc = some (.invokespecial i, len, v0, t, 9)) (hsum : (st.map fun v => v.category).sum ≤ 8) (hd : 1 ≤ d) (h : AW g d y (pc + 3, L, st) σ Q) : AW g d y (pc, L, .ref a :: st) σ Q := AW.mk ⟨_, hr, Or.inr (Or.inr (Or.inr (Or.inr (Or.inl ⟨rfl, a, st, rfl, hsum, hd, h⟩))))⟩
theorem aw_cpy {g : Nat × Nat} {d y pc : Nat} {L : am_L} {st : List Value} {σ : am_H} {Q : Option Value → am_H → Prop} {i len t : Nat} {v0 : Value} {n dp sp : Int32} {a a0 n0 n1 : Nat} {f f1 : Nat → Int32} (hr : am_find (am_code y) pc = some (.invokestatic i, len, v0, t, 7)) (hsum : (st.map fun v => v.category).sum ≤ 8) (hd : 1 ≤ d) (ha : g.1 ≤ a) (ha0 : g.1 ≤ a0) (hc0 : σ.1 a0 = some (.inl (1, n0, .inl f))) (hc : σ.1 a = some (.inl (1, n1, .inl f1))) (h1 : ¬ sp < 0) (h2 : ¬ dp < 0) (h3 : ¬ n < 0) (h4 : sp.toNatClampNeg + n.toNatClampNeg ≤ n0) (h5 : dp.toNatClampNeg + n.toNatClampNeg ≤ n1) (h6 : ∀ i, i < n.toNatClampNeg → fits .byte (.int (f (sp.toNatClampNeg + i))) = true) (h : AW g d y (pc + 3, L, st) (am_set σ a (.inl (1, n1, .inl (va_cpy f f1 sp.toNatClampNeg dp.toNatClampNeg n.toNatClampNeg)))) Q) : AW g d y (pc, L, .int n :: .int dp :: .ref a :: .int sp :: .ref a0 :: st) σ Q := AW.mk ⟨_, hr, Or.inr (Or.inr (Or.inr (Or.inr (Or.inl ⟨rfl, n, dp, sp, a, a0, n0, n1, f, f1, st, rfl, hsum, hd, ha, ha0, hc0, hc, h1, h2, h3, h4, h5, h6, h⟩))))⟩
theorem aw_min {g : Nat × Nat} {d y pc : Nat} {L : am_L} {st : List Value} {σ : am_H} {Q : Option Value → am_H → Prop} {i len t : Nat} {v0 : Value} {x z : Int32} (hr : am_find (am_code y) pc = some (.invokestatic i, len, v0, t, 8)) (hsum : (st.map fun v => v.category).sum ≤ 8) (hd : 1 ≤ d) (h : AW g d y (pc + 3, L, .int (if z < x then z else x) :: st) σ Q) : AW g d y (pc, L, .int z :: .int x :: st) σ Q := AW.mk ⟨_, hr, Or.inr (Or.inr (Or.inr (Or.inr (Or.inr (Or.inl ⟨rfl, x, z, st, rfl, hsum, hd, h⟩)))))⟩
theorem aw_cln {g : Nat × Nat} {d y pc : Nat} {L : am_L} {st : List Value} {σ : am_H} {Q : Option Value → am_H → Prop} {i len t : Nat} {v0 : Value} {a n : Nat} {f : Nat → Int32} (hr : am_find (am_code y) pc = some (.invokevirtual i, len, v0, t, 6)) (hsum : (st.map fun v => v.category).sum ≤ 8) (hd : 1 ≤ d) (ha : g.1 ≤ a) (hc : σ.1 a = some (.inl (1, n, .inl f))) (hf : ∀ i, i < n → fits .byte (.int (f i)) = true) (h : AW g d y (pc + 3, L, .ref σ.2.1 :: st) (am_psh σ (.inl (1, n, .inl f)) n) Q) : AW g d y (pc, L, .ref a :: st) σ Q := AW.mk ⟨_, hr, Or.inr (Or.inr (Or.inr (Or.inr (Or.inl ⟨rfl, a, n, f, st, rfl, hsum, hd, ha, hc, hf, h⟩))))⟩
theorem aw_cast {g : Nat × Nat} {d y pc : Nat} {L : am_L} {st : List Value} {σ : am_H} {Q : Option Value → am_H → Prop} {i len t b a n : Nat} {v0 : Value} {f : Nat → Int32} (hr : am_find (am_code y) pc = some (.checkcast i, len, v0, t, b)) (ha : g.1 ≤ a) (hc : σ.1 a = some (.inl (1, n, .inl f))) (h : AW g d y (pc + 3, L, .ref a :: st) σ Q) : AW g d y (pc, L, .ref a :: st) σ Q := AW.mk ⟨_, hr, Or.inr (Or.inr (Or.inl ⟨a, st, n, f, rfl, ha, hc, h⟩))⟩
theorem AW.post {g : Nat × Nat} {d y : Nat} {F : am_F} {σ : am_H} {Q Q' : Option Value → am_H → Prop} (h : AW g d y F σ Q) (hq : ∀ v σ', Q v σ' → Q' v σ') : AW g d y F σ Q' := by
  refine AW.ind (fun d y F σ Q => ∀ Q' : Option Value → am_H → Prop, (∀ v σ', Q v σ' → Q' v σ') → AW g d y F σ Q') ?_ h Q' hq
  intro d y F σ Q hb Q' hq
  obtain ⟨r, hr, h1⟩ := hb
  refine AW.mk ⟨r, hr, ?_⟩
  rcases h1 with ⟨F', h1, h2⟩ | h1 | h1 | h1 | h1
  · exact Or.inl ⟨F', h1, h2 Q' hq⟩
  · exact Or.inr (Or.inl (am_br_mono (fun F' q => q Q' hq) h1))
  · exact Or.inr (Or.inr (Or.inl (am_hp_mono (fun F' σ' q => q Q' hq) h1)))
  · refine Or.inr (Or.inr (Or.inr (Or.inl ?_)))
    unfold am_en at h1 ⊢
    split at h1
    · obtain ⟨x, e1, e2, e3⟩ := h1
      exact ⟨x, e1, e2, hq _ _ e3⟩
    · obtain ⟨x, e1, e2, e3⟩ := h1
      exact ⟨x, e1, e2, hq _ _ e3⟩
    · obtain ⟨x, e1, e2, e3, e4⟩ := h1
      exact ⟨x, e1, e2, e3, hq _ _ e4⟩
    · exact ⟨h1.1, h1.2.1, hq _ _ h1.2.2⟩
    · exact h1.elim
  · refine Or.inr (Or.inr (Or.inr (Or.inr ?_)))
    have cg : ∀ {k y' : Nat}, am_cg (fun d y F σ Q => ∀ Q' : Option Value → am_H → Prop, (∀ v σ', Q v σ' → Q' v σ') → AW g d y F σ Q') k d y y' F σ Q → am_cg (AW g) k d y y' F σ Q' := by
      intro k y' hc
      obtain ⟨d', vs, rest, Q1, e1, e2, e3, e4, e5, e6, e7, e8⟩ := hc
      exact ⟨d', vs, rest, Q1, e1, e2, e3, e4, e5, e6, e7 Q1 (fun _ _ q => q), fun v σ' q => e8 v σ' q Q' hq⟩
    unfold am_ca at h1 ⊢
    split at h1
    · rcases h1 with ⟨e0, a, rest, e1, e2, e3, e4⟩ | ⟨e0, e1⟩
      · exact Or.inl ⟨e0, a, rest, e1, e2, e3, e4 Q' hq⟩
      · exact Or.inr ⟨e0, cg e1⟩
    · rcases h1 with ⟨e0, a, n, f, rest, e1, e2, e3, e4, e5, e6, e7⟩ | ⟨e0, e1⟩
      · exact Or.inl ⟨e0, a, n, f, rest, e1, e2, e3, e4, e5, e6, e7 Q' hq⟩
      · exact Or.inr ⟨e0, cg e1⟩
    · rcases h1 with ⟨e0, n, dp, sp, a, a0, n0, n1, f, f1, rest, e1, e2, e3, e4, e5, e6, e7, e8, e9, ea, eb, ec, ed, ee⟩ | ⟨e0, x, z, rest, e1, e2, e3, e4⟩ | ⟨e0, e1, e2⟩
      · exact Or.inl ⟨e0, n, dp, sp, a, a0, n0, n1, f, f1, rest, e1, e2, e3, e4, e5, e6, e7, e8, e9, ea, eb, ec, ed, ee Q' hq⟩
      · exact Or.inr (Or.inl ⟨e0, x, z, rest, e1, e2, e3, e4 Q' hq⟩)
      · exact Or.inr (Or.inr ⟨e0, e1, cg e2⟩)
    · exact h1.elim
end
section
def am_isA (w : Jvm.Cond) : Bool := match w with
  | .arrayClass _ => true
  | _ => false
/-- a word that holds at every state of the run -/
def am_w (w : Jvm.Cond) : Bool := decide (w ∈ lw_tbl) && ((w.onTables && w.keeps) || am_isA w)
def am_okf (y i ci k : Nat) : Bool := decide (k < am_nf ci) && (am_w (.fieldLink (am_ow y) i (am_T ci k).1 (am_T ci k).2.1 (am_T ci k).2.2.1) || decide (Jvm.Cond.fieldLinkNest (am_ow y) i (am_T ci k).1 (am_T ci k).2.1 (am_T ci k).2.2.1 am_host ∈ am_nst))
/-- a call: of which kind, of which method -/
def am_okc (y i k y' : Nat) : Bool := am_w (.code (am_yn y') (am_by y') (am_ml y') (am_re y')) && (am_w (.initialized (am_yn y').cls) && ((am_w (.methodLink (am_ow y) i (am_yn y')) || decide (Jvm.Cond.methodLinkNest (am_ow y) i (am_yn y') am_host ∈ am_nst)) && (decide ((am_yn y').cls ≠ "java/lang/invoke/MethodHandle" ∧ (am_yn y').cls ≠ "java/lang/invoke/VarHandle") && (decide ((parseMethodDescriptor (am_yn y').desc).map (fun d => d.parameters.length) = some (if k = 0 then am_ar y' else am_ar y' - 1)) && (plainName (am_yn y').cls && (decide (am_ml y' ≤ 41 ∧ (k = 0 ∨ 0 < am_ar y')) &&
  (if k = 0 then am_w (.static (am_yn y')) else if k = 1 then decide ((am_yn y').name = "<init>" ∧ am_re y' = none) && am_w (.instanceMethod (am_yn y')) else decide (am_cn (am_ko y') = (am_yn y').cls ∧ am_ko y' < am_nc) && (am_w (.instanceMethod (am_yn y')) && am_w (.selects (am_yn y').cls (am_yn y') (am_yn y'))))))))))
/-- what a row of the code must be -/
def am_ok (y pc : Nat) (r : am_R) : Bool := match r.1 with
  | .iconst k => r.2.1 == 1 && decide (r.2.2.1 = .int (Int32.ofInt k))
  | .bipush k => r.2.1 == 2 && decide (r.2.2.1 = .int (Int8.ofInt k).toInt32)
  | .sipush k => r.2.1 == 3 && decide (r.2.2.1 = .int (Int16.ofInt k).toInt32)
  | .lconst k => r.2.1 == 1 && decide (r.2.2.1 = .long (Int64.ofNat (k : Nat)))
  | .ldc i => r.2.1 == 2 && (match r.2.2.1 with
    | .int v => am_w (.constant (am_ow y) i v)
    | _ => false)
  | .ldc2_w i => r.2.1 == 3 && (match r.2.2.1 with
    | .long v => am_w (.constantLong (am_ow y) i v)
    | _ => false)
  | .iload _ => r.2.1 == 2
  | .lload _ => r.2.1 == 2
  | .aload _ => r.2.1 == 2
  | .istore _ => r.2.1 == 2
  | .lstore _ => r.2.1 == 2
  | .astore _ => r.2.1 == 2
  | .iinc _ k => r.2.1 == 3 && decide (r.2.2.1 = .int (Int32.ofInt k))
  | .goto o => r.2.1 == 3 && decide ((pc : Int) + o = (r.2.2.2.1 : Int))
  | .ifCond _ o => r.2.1 == 3 && decide ((pc : Int) + o = (r.2.2.2.1 : Int))
  | .if_icmp _ o => r.2.1 == 3 && decide ((pc : Int) + o = (r.2.2.2.1 : Int))
  | .ifnull o => r.2.1 == 3 && decide ((pc : Int) + o = (r.2.2.2.1 : Int))
  | .ifnonnull o => r.2.1 == 3 && decide ((pc : Int) + o = (r.2.2.2.1 : Int))
  | .tableswitch _ _ _ _ => true
  | .lookupswitch _ _ => true
  | .getfield i => r.2.1 == 3 && (am_okf y i r.2.2.2.1 r.2.2.2.2 && decide (r.2.2.2.1 < am_nc))
  | .putfield i => r.2.1 == 3 && ((am_okf y i r.2.2.2.1 r.2.2.2.2 && decide (r.2.2.2.1 < am_nc)) && (!(am_T r.2.2.2.1 r.2.2.2.2).2.2.2 || (am_w (.fieldLink (am_ow y) i (am_T r.2.2.2.1 r.2.2.2.2).1 (am_T r.2.2.2.1 r.2.2.2.2).2.1 (am_T r.2.2.2.1 r.2.2.2.2).2.2.1) && decide ((am_yn y).name = "<init>") && decide ((am_T r.2.2.2.1 r.2.2.2.2).1 = am_ow y))))
  | .getstatic i => r.2.1 == 3 && (am_w (.fieldLink (am_ow y) i am_stC am_stN am_stD) || decide (Jvm.Cond.fieldLinkNest (am_ow y) i am_stC am_stN am_stD am_host ∈ am_nst))
  | .new i => r.2.1 == 3 && (am_w (.classLink (am_ow y) i (am_cn r.2.2.2.1)) && decide (r.2.2.2.1 < am_nc))
  | .newarray t => r.2.1 == 2 && (((decide (am_tyl[r.2.2.2.1]? = some (newarray.typeOf t)) && am_w (.arrayClass (newarray.typeOf t))) && decide (defaultValue (newarray.typeOf t) = .int 0)) && decide (componentBytes (newarray.typeOf t) ≤ 8))
  | .anewarray i => r.2.1 == 3 && (match am_tyl[r.2.2.2.1]? with
    | some (.object C) => am_w (.classLink (am_ow y) i C) && decide (C ∈ am_aos)
    | _ => false)
  | .invokestatic i => r.2.1 == 3 && (if r.2.2.2.2 = 7 then am_w (.methodLink (am_ow y) i arraycopyName) else if r.2.2.2.2 = 8 then am_w (.methodLink (am_ow y) i Lib.Math.min.name) else am_okc y i 0 r.2.2.2.1)
  | .invokespecial i => r.2.1 == 3 && (if r.2.2.2.2 = 9 then am_w (.methodLink (am_ow y) i objectInit) else am_okc y i 1 r.2.2.2.1)
  | .invokevirtual i => r.2.1 == 3 && (if r.2.2.2.2 = 6 then am_w (.methodLink (am_ow y) i ⟨"[B", "clone", "()Ljava/lang/Object;"⟩) else am_okc y i 2 r.2.2.2.1)
  | .checkcast i => r.2.1 == 3 && am_w (.classLink (am_ow y) i "[B")
  | _ => r.2.1 == 1
end
section
theorem am_cl (ci : Nat) (h : ci < am_nc) : am_vw[ci]? = some (am_cn ci, am_T ci, am_nf ci) := by
  have h7 : ci < 7 := h
  rcases (by omega : ci = 0 ∨ ci = 1 ∨ ci = 2 ∨ ci = 3 ∨ ci = 4 ∨ ci = 5 ∨ ci = 6) with rfl | rfl | rfl | rfl | rfl | rfl | rfl <;> rfl
theorem am_tyokB : ∀ ci ∈ List.range 7, ∀ k ∈ List.range (am_nf ci), parseFieldDescriptor (am_T ci k).2.2.1 = some (am_ty ci k) := by decide +kernel
theorem am_tyok (ci : Nat) (h : ci < am_nc) : ∀ k, k < am_nf ci → parseFieldDescriptor (am_T ci k).2.2.1 = some (am_ty ci k) := fun k hk => am_tyokB ci (List.mem_range.mpr h) k (List.mem_range.mpr hk)
theorem am_tynmB : ∀ ci ∈ List.range 7, ∀ a ∈ List.range (am_nf ci), ∀ b ∈ List.range (am_nf ci), a ≠ b → (am_T ci a).2.1 ≠ (am_T ci b).2.1 := by decide +kernel
theorem am_tynm (ci : Nat) (h : ci < am_nc) : ∀ a, a < am_nf ci → ∀ b, b < am_nf ci → a ≠ b → (am_T ci a).2.1 ≠ (am_T ci b).2.1 := fun a ha b hb => am_tynmB ci (List.mem_range.mpr h) a (List.mem_range.mpr ha) b (List.mem_range.mpr hb)
theorem am_dflB : ∀ ci ∈ List.range 7, ∀ k ∈ List.range (am_nf ci), defaultValue (am_ty ci k) = vp_V (am_def ci) k := by decide +kernel
theorem am_dfl (ci : Nat) (h : ci < am_nc) : ∀ k, k < am_nf ci → defaultValue (am_ty ci k) = vp_V (am_def ci) k := fun k hk => am_dflB ci (List.mem_range.mpr h) k (List.mem_range.mpr hk)
theorem am_layB : ∀ ci ∈ List.range 7, ∀ w ∈ u_ws (am_cn ci) (am_T ci) (am_nf ci), am_w w = true := by decide +kernel
theorem am_layW (ci : Nat) (h : ci < am_nc) : ∀ w ∈ u_ws (am_cn ci) (am_T ci) (am_nf ci), am_w w = true := am_layB ci (List.mem_range.mpr h)
theorem am_insB : ∀ ci ∈ List.range 7, am_w (.instantiable (am_cn ci) (am_nf ci)) = true ∧ am_w (.initialized (am_cn ci)) = true := by decide +kernel
theorem am_ins (ci : Nat) (h : ci < am_nc) : am_w (.instantiable (am_cn ci) (am_nf ci)) = true := (am_insB ci (List.mem_range.mpr h)).1
theorem am_ini (ci : Nat) (h : ci < am_nc) : am_w (.initialized (am_cn ci)) = true := (am_insB ci (List.mem_range.mpr h)).2
theorem am_oi1 : am_w (.instanceMethod objectInit) = true := by decide +kernel
theorem am_oi2 : am_w (.code objectInit ⟨#[0xb1]⟩ 1 none) = true := by decide +kernel
theorem am_cp1 : am_w (.native arraycopyName) = true ∧ am_w (.static arraycopyName) = true ∧ am_w (.initialized "java/lang/System") = true := by decide +kernel
theorem am_cn1 : am_w (.sameMethod "[B" "java/lang/Object" "clone" "()Ljava/lang/Object;") = true ∧ am_w (.native ⟨"java/lang/Object", "clone", "()Ljava/lang/Object;"⟩) = true ∧ am_w (.instanceMethod ⟨"java/lang/Object", "clone", "()Ljava/lang/Object;"⟩) = true ∧ am_w (.selects "[B" ⟨"[B", "clone", "()Ljava/lang/Object;"⟩ ⟨"java/lang/Object", "clone", "()Ljava/lang/Object;"⟩) = true := by decide +kernel
theorem am_el_of {t ci : Nat} (h : am_el t = some ci) : ci < am_nc ∧ am_tyl[t]? = some (.object (am_cn ci)) := by
  unfold am_el at h
  split at h
  · cases h
    exact ⟨by decide, rfl⟩
  · cases h
    exact ⟨by decide, rfl⟩
  · cases h
theorem am_mm1 : am_w (.static Lib.Math.min.name) = true ∧ am_w (.initialized "java/lang/Math") = true ∧ am_w (.code Lib.Math.min.name Lib.Math.min.code 2 (some .int)) = true := by decide +kernel
end
section
/-! locals -/
theorem am_ld_iff {L : am_L} {i : Nat} {v : Value} : am_ld L i = some v ↔ L[i]? = some (some v) := by
  unfold am_ld
  constructor
  · intro h
    split at h
    · rename_i w hw
      cases h
      exact hw
    · cases h
  · intro h
    rw [h]
theorem am_clr_len (L : am_L) (i : Nat) : (am_clr L i).length = L.length := by
  unfold am_clr
  split
  · rfl
  · split
    · split
      · simp
      · rfl
    · rfl
theorem am_clr_get {L : am_L} {i j : Nat} {w : Value} (h : (am_clr L i)[j]? = some (some w)) : L[j]? = some (some w) ∧ ¬ (j + 1 = i ∧ w.category = 2) := by
  unfold am_clr at h
  split at h
  · exact ⟨h, fun q => by omega⟩
  · rename_i k
    split at h
    · rename_i w0 hw
      split at h
      · by_cases hj : j = k
        · subst hj
          rw [List.getElem?_set] at h
          simp at h
        · rw [List.getElem?_set_ne (Ne.symm hj)] at h
          exact ⟨h, fun q => hj (by omega)⟩
      · rename_i hc
        refine ⟨h, fun q => ?_⟩
        have e : j = k := by omega
        subst e
        rw [am_ld_iff.mp hw] at h
        cases h
        exact hc q.2
    · rename_i hn
      refine ⟨h, fun q => ?_⟩
      have e : j = k := by omega
      subst e
      rw [am_ld_iff.mpr h] at hn
      cases hn
def am_has (ls : Array Slot) (nL : Nat) (L : am_L) : Prop := ls.size = nL ∧ lv_wf ls ∧ L.length = nL ∧ ∀ (i : Nat) (v : Value), L[i]? = some (some v) → ls[i]? = some (.val v)
theorem am_has.at {ls : Array Slot} {nL : Nat} {L : am_L} (h : am_has ls nL L) {i : Nat} {v : Value} (hv : am_ld L i = some v) : ls[i]? = some (.val v) := h.2.2.2 i v (am_ld_iff.mp hv)
def am_prs (L : am_L) : List (Nat × Value) := (List.range L.length).filterMap (fun i => (am_ld L i).map (fun v => (i, v)))
theorem am_prs_mem {L : am_L} {q : Nat × Value} : q ∈ am_prs L ↔ am_ld L q.1 = some q.2 := by
  unfold am_prs
  simp only [List.mem_filterMap, List.mem_range, Option.map_eq_some_iff]
  constructor
  · rintro ⟨i, hi, v, hv, rfl⟩
    exact hv
  · intro h
    exact ⟨q.1, (List.getElem?_eq_some_iff.mp (am_ld_iff.mp h)).1, q.2, h, rfl⟩
theorem am_has.lv {ls : Array Slot} {nL : Nat} {L : am_L} (h : am_has ls nL L) : lv_has ls nL (am_prs L) := ⟨h.1, h.2.1, fun q hq => h.at (am_prs_mem.mp hq)⟩
theorem am_has.s1 {ls ls' : Array Slot} {nL i : Nat} {L : am_L} {v : Value} (h : am_has ls nL L) (h' : lv_has ls' nL ((i, v) :: (am_prs L).filter (fun q => !(q.1 == i) && !(q.1 + 1 == i && q.2.category == 2)))) : am_has ls' nL (am_s1 L i v) := by
  refine ⟨h'.1, h'.2.1, by simp [am_s1, am_clr_len, h.2.2.1], fun j w hj => ?_⟩
  apply h'.2.2 (j, w)
  unfold am_s1 at hj
  by_cases e : j = i
  · subst e
    rw [List.getElem?_set] at hj
    simp at hj
    rw [hj.2]
    exact List.mem_cons_self
  · rw [List.getElem?_set_ne (Ne.symm e)] at hj
    obtain ⟨h1, h2⟩ := am_clr_get hj
    refine List.mem_cons_of_mem _ (List.mem_filter.mpr ⟨am_prs_mem.mpr (am_ld_iff.mpr h1), ?_⟩)
    simp only [Bool.and_eq_true, Bool.not_eq_true', beq_eq_false_iff_ne, ne_eq, Bool.and_eq_false_iff]
    refine ⟨e, ?_⟩
    by_cases q : j + 1 = i
    · exact Or.inr (fun z => h2 ⟨q, z⟩)
    · exact Or.inl q
theorem am_has.s2 {ls ls' : Array Slot} {nL i : Nat} {L : am_L} {v : Value} (h : am_has ls nL L) (h' : lv_has ls' nL ((i, v) :: (am_prs L).filter (fun q => !(q.1 == i) && (!(q.1 == i + 1) && !(q.1 + 1 == i && q.2.category == 2))))) : am_has ls' nL (am_s2 L i v) := by
  refine ⟨h'.1, h'.2.1, by simp [am_s2, am_clr_len, h.2.2.1], fun j w hj => ?_⟩
  apply h'.2.2 (j, w)
  unfold am_s2 at hj
  by_cases e1 : j = i + 1
  · subst e1
    rw [List.getElem?_set] at hj
    simp at hj
  · rw [List.getElem?_set_ne (Ne.symm e1)] at hj
    by_cases e : j = i
    · subst e
      rw [List.getElem?_set] at hj
      simp at hj
      rw [hj.2]
      exact List.mem_cons_self
    · rw [List.getElem?_set_ne (Ne.symm e)] at hj
      obtain ⟨h1, h2⟩ := am_clr_get hj
      refine List.mem_cons_of_mem _ (List.mem_filter.mpr ⟨am_prs_mem.mpr (am_ld_iff.mpr h1), ?_⟩)
      simp only [Bool.and_eq_true, Bool.not_eq_true', beq_eq_false_iff_ne, ne_eq, Bool.and_eq_false_iff]
      refine ⟨e, e1, ?_⟩
      by_cases q : j + 1 = i
      · exact Or.inr (fun z => h2 ⟨q, z⟩)
      · exact Or.inl q
theorem am_ent_len : ∀ vs : List Value, (am_ent vs).length = (lg_sl vs).length
  | [] => rfl
  | v :: r => by
    have ih := am_ent_len r
    unfold lg_sl at ih ⊢
    by_cases h : v.category = 2
    · simp [am_ent, h, ih]
    · simp [am_ent, h, ih]
theorem am_ent_get : ∀ (vs : List Value) (k i : Nat) (v : Value), (am_ent vs)[i]? = some (some v) → (k + i, v) ∈ lv_args k vs
  | [], k, i, v, h => by simp [am_ent] at h
  | w :: r, k, i, v, h => by
    by_cases hc : w.category = 2
    · simp only [am_ent, hc, if_true] at h
      simp only [lv_args, hc, if_true]
      match i with
      | 0 =>
        simp at h
        subst h
        exact List.mem_cons_self
      | 1 => simp at h
      | j + 2 =>
        have h' : (am_ent r)[j]? = some (some v) := by simpa using h
        have := am_ent_get r (k + 2) j v h'
        rw [show k + (j + 2) = k + 2 + j by omega]
        exact List.mem_cons_of_mem _ this
    · simp only [am_ent, hc, if_false] at h
      simp only [lv_args, hc, if_false]
      match i with
      | 0 =>
        simp at h
        subst h
        exact List.mem_cons_self
      | j + 1 =>
        have h' : (am_ent r)[j]? = some (some v) := by simpa using h
        have := am_ent_get r (k + 1) j v h'
        rw [show k + (j + 1) = k + 1 + j by omega]
        exact List.mem_cons_of_mem _ this
theorem am_entry (vs : List Value) {n : Nat} (h : (am_ent vs).length ≤ n) : am_has ((lg_sl vs ++ List.replicate (n - (lg_sl vs).length) Slot.unset).toArray) n (am_pad (am_ent vs) n) := by
  have h' : (lg_sl vs).length ≤ n := by rw [← am_ent_len]; exact h
  obtain ⟨h1, h2, h3⟩ := lv_entry vs h'
  refine ⟨h1, h2, by simp [am_pad]; omega, fun i v hi => ?_⟩
  unfold am_pad at hi
  by_cases hl : i < (am_ent vs).length
  · rw [List.getElem?_append_left hl] at hi
    have := am_ent_get vs 0 i v hi
    rw [Nat.zero_add] at this
    exact h3 _ this
  · rw [List.getElem?_append_right (by omega)] at hi
    have := List.eq_of_mem_replicate (List.mem_of_getElem? hi)
    cases this
end
section
section AMPL
variable {p : Program} {l : Launch} {e : Env} {R : Room} {s : State} {m : MethodId} {args : Array Value} {below : List Frame} {meth : Method} {c : Code} {H : Heap} {locs : List Loc} {cells slots : Nat} {Q : State → Prop}
set_option maxHeartbeats 4000000 in
theorem am_plW {y pc nL : Nat} {r : am_R} {L : am_L} {st : List Value} {F' : am_F} {ls : Array Slot} (hx : p.tables.exec = Jvm.exec) (hb : c.code = am_by y) (hown : s.vm.findClass (am_ow y) = some m.cls) (hts : ∀ w, am_w w = true → w.before args s = true) (hd : decode (am_by y) pc = .ok (r.1, r.2.1)) (hok : am_ok y pc r = true) (hl : am_has ls nL L) (hp : am_pl r (pc, L, st) = some F') (k : ∀ ls', am_has ls' nL F'.2.1 → W p l e R s m args below meth c H locs cells slots Q (F0 m F'.1 ls' F'.2.2)) : W p l e R s m args below meth c H locs cells slots Q (F0 m pc ls st) := by
  obtain ⟨i, len, v, a, b⟩ := r
  dsimp only at hd
  cases i with
  | iconst n =>
    simp only [am_ok, Bool.and_eq_true, beq_iff_eq, decide_eq_true_eq] at hok
    obtain ⟨rfl, rfl⟩ := hok
    cases hp
    exact lv_iconst hx hb hd rfl (k ls hl)
  | bipush n =>
    simp only [am_ok, Bool.and_eq_true, beq_iff_eq, decide_eq_true_eq] at hok
    obtain ⟨rfl, rfl⟩ := hok
    cases hp
    exact lv_bipush hx hb hd rfl (k ls hl)
  | sipush n =>
    simp only [am_ok, Bool.and_eq_true, beq_iff_eq, decide_eq_true_eq] at hok
    obtain ⟨rfl, rfl⟩ := hok
    cases hp
    exact lv_sipush hx hb hd rfl (k ls hl)
  | lconst n =>
    simp only [am_ok, Bool.and_eq_true, beq_iff_eq, decide_eq_true_eq] at hok
    obtain ⟨rfl, rfl⟩ := hok
    cases hp
    exact lv_lconst hx hb hd rfl (k ls hl)
  | ldc n =>
    simp only [am_ok, Bool.and_eq_true, beq_iff_eq, decide_eq_true_eq] at hok
    obtain ⟨rfl, hok⟩ := hok
    cases hp
    cases v with
    | int z => exact lv_ldc hx hb hown (hts _ hok) hd (k ls hl)
    | _ => simp at hok
  | ldc2_w n =>
    simp only [am_ok, Bool.and_eq_true, beq_iff_eq, decide_eq_true_eq] at hok
    obtain ⟨rfl, hok⟩ := hok
    cases hp
    cases v with
    | long z => exact lv_ldc2 hx hb hown (hts _ hok) hd (k ls hl)
    | _ => simp at hok
  | aconst_null =>
    simp only [am_ok, beq_iff_eq] at hok
    subst hok
    cases hp
    exact lv_null hx hb hd (k ls hl)
  | iload n =>
    simp only [am_ok, beq_iff_eq] at hok
    subst hok
    simp only [am_pl, am_ldi] at hp
    split at hp
    · rename_i x hv
      cases hp
      exact lv_iload hx hb hd (hl.at hv) (k ls hl)
    · cases hp
  | iload_n n =>
    simp only [am_ok, beq_iff_eq] at hok
    subst hok
    simp only [am_pl, am_ldi] at hp
    split at hp
    · rename_i x hv
      cases hp
      exact lv_iload_n hx hb hd rfl (hl.at hv) (k ls hl)
    · cases hp
  | lload n =>
    simp only [am_ok, beq_iff_eq] at hok
    subst hok
    simp only [am_pl, am_ldl] at hp
    split at hp
    · rename_i x hv
      cases hp
      exact lv_lload hx hb hd (hl.at hv) (k ls hl)
    · cases hp
  | lload_n n =>
    simp only [am_ok, beq_iff_eq] at hok
    subst hok
    simp only [am_pl, am_ldl] at hp
    split at hp
    · rename_i x hv
      cases hp
      exact lv_lload_n hx hb hd rfl (hl.at hv) (k ls hl)
    · cases hp
  | aload n =>
    simp only [am_ok, beq_iff_eq] at hok
    subst hok
    simp only [am_pl, am_lda] at hp
    split at hp
    · rename_i x hv
      cases hp
      exact lv_aload hx hb hd (hl.at hv) (k ls hl)
    · rename_i hv
      cases hp
      exact lv_aloadN hx hb hd (hl.at hv) (k ls hl)
    · cases hp
  | aload_n n =>
    simp only [am_ok, beq_iff_eq] at hok
    subst hok
    simp only [am_pl, am_lda] at hp
    split at hp
    · rename_i x hv
      cases hp
      exact lv_aload_n hx hb hd rfl (hl.at hv) (k ls hl)
    · rename_i hv
      cases hp
      exact lv_aload_nN hx hb hd rfl (hl.at hv) (k ls hl)
    · cases hp
  | istore n =>
    simp only [am_ok, beq_iff_eq] at hok
    subst hok
    simp only [am_pl, am_sti] at hp
    split at hp
    · split at hp
      · rename_i hi
        cases hp
        exact lv_istore hx hb hd hl.lv (by rw [← hl.2.2.1]; exact hi) rfl (fun ls' h' => k ls' (hl.s1 h'))
      · cases hp
    · cases hp
  | istore_n n =>
    simp only [am_ok, beq_iff_eq] at hok
    subst hok
    simp only [am_pl, am_sti] at hp
    split at hp
    · split at hp
      · rename_i hi
        cases hp
        exact lv_istore_n hx hb hd rfl hl.lv (by rw [← hl.2.2.1]; exact hi) rfl (fun ls' h' => k ls' (hl.s1 h'))
      · cases hp
    · cases hp
  | lstore n =>
    simp only [am_ok, beq_iff_eq] at hok
    subst hok
    simp only [am_pl, am_stl] at hp
    split at hp
    · split at hp
      · rename_i hi
        cases hp
        exact lv_lstore hx hb hd hl.lv (by rw [← hl.2.2.1]; exact hi) rfl (fun ls' h' => k ls' (hl.s2 h'))
      · cases hp
    · cases hp
  | lstore_n n =>
    simp only [am_ok, beq_iff_eq] at hok
    subst hok
    simp only [am_pl, am_stl] at hp
    split at hp
    · split at hp
      · rename_i hi
        cases hp
        exact lv_lstore_n hx hb hd rfl hl.lv (by rw [← hl.2.2.1]; exact hi) rfl (fun ls' h' => k ls' (hl.s2 h'))
      · cases hp
    · cases hp
  | astore n =>
    simp only [am_ok, beq_iff_eq] at hok
    subst hok
    simp only [am_pl, am_sta] at hp
    split at hp
    · split at hp
      · rename_i hi
        cases hp
        exact lv_astore hx hb hd hl.lv (by rw [← hl.2.2.1]; exact hi) rfl (fun ls' h' => k ls' (hl.s1 h'))
      · cases hp
    · split at hp
      · rename_i hi
        cases hp
        exact lv_astoreN hx hb hd hl.lv (by rw [← hl.2.2.1]; exact hi) rfl (fun ls' h' => k ls' (hl.s1 h'))
      · cases hp
    · cases hp
  | astore_n n =>
    simp only [am_ok, beq_iff_eq] at hok
    subst hok
    simp only [am_pl, am_sta] at hp
    split at hp
    · split at hp
      · rename_i hi
        cases hp
        exact lv_astore_n hx hb hd rfl hl.lv (by rw [← hl.2.2.1]; exact hi) rfl (fun ls' h' => k ls' (hl.s1 h'))
      · cases hp
    · split at hp
      · rename_i hi
        cases hp
        exact lv_astore_nN hx hb hd rfl hl.lv (by rw [← hl.2.2.1]; exact hi) rfl (fun ls' h' => k ls' (hl.s1 h'))
      · cases hp
    · cases hp
  | iinc n z =>
    simp only [am_ok, Bool.and_eq_true, beq_iff_eq, decide_eq_true_eq] at hok
    obtain ⟨rfl, rfl⟩ := hok
    simp only [am_pl] at hp
    split at hp
    · rename_i x cv hv hc
      cases hc
      split at hp
      · rename_i hi
        cases hp
        obtain ⟨q, hq⟩ := List.getElem?_of_mem ((am_prs_mem (q := (n, .int x))).mpr hv)
        exact lv_iinc hx hb hd hl.lv hq rfl (by rw [← hl.2.2.1]; exact hi) rfl (fun ls' h' => k ls' (hl.s1 h'))
      · cases hp
    · cases hp
  | iadd =>
    simp only [am_ok, beq_iff_eq] at hok
    subst hok
    simp only [am_pl, am_i2] at hp
    split at hp
    · cases hp
      exact lv_iadd hx hb hd (k ls hl)
    · cases hp
  | isub =>
    simp only [am_ok, beq_iff_eq] at hok
    subst hok
    simp only [am_pl, am_i2] at hp
    split at hp
    · cases hp
      exact lv_isub hx hb hd (k ls hl)
    · cases hp
  | imul =>
    simp only [am_ok, beq_iff_eq] at hok
    subst hok
    simp only [am_pl, am_i2] at hp
    split at hp
    · cases hp
      exact lv_imul hx hb hd (k ls hl)
    · cases hp
  | iand =>
    simp only [am_ok, beq_iff_eq] at hok
    subst hok
    simp only [am_pl, am_i2] at hp
    split at hp
    · cases hp
      exact lv_iand hx hb hd (k ls hl)
    · cases hp
  | ior =>
    simp only [am_ok, beq_iff_eq] at hok
    subst hok
    simp only [am_pl, am_i2] at hp
    split at hp
    · cases hp
      exact lv_ior hx hb hd (k ls hl)
    · cases hp
  | ishl =>
    simp only [am_ok, beq_iff_eq] at hok
    subst hok
    simp only [am_pl, am_i2] at hp
    split at hp
    · cases hp
      exact lv_ishl hx hb hd (k ls hl)
    · cases hp
  | ishr =>
    simp only [am_ok, beq_iff_eq] at hok
    subst hok
    simp only [am_pl, am_i2] at hp
    split at hp
    · cases hp
      exact lv_ishr hx hb hd (k ls hl)
    · cases hp
  | ladd =>
    simp only [am_ok, beq_iff_eq] at hok
    subst hok
    simp only [am_pl, am_l2] at hp
    split at hp
    · cases hp
      exact lv_ladd hx hb hd (k ls hl)
    · cases hp
  | lmul =>
    simp only [am_ok, beq_iff_eq] at hok
    subst hok
    simp only [am_pl, am_l2] at hp
    split at hp
    · cases hp
      exact lv_lmul hx hb hd (k ls hl)
    · cases hp
  | land =>
    simp only [am_ok, beq_iff_eq] at hok
    subst hok
    simp only [am_pl, am_l2] at hp
    split at hp
    · cases hp
      exact lv_land hx hb hd (k ls hl)
    · cases hp
  | lor =>
    simp only [am_ok, beq_iff_eq] at hok
    subst hok
    simp only [am_pl, am_l2] at hp
    split at hp
    · cases hp
      exact lv_lor hx hb hd (k ls hl)
    · cases hp
  | lcmp =>
    simp only [am_ok, beq_iff_eq] at hok
    subst hok
    simp only [am_pl, am_l2] at hp
    split at hp
    · cases hp
      exact W.lcmp hx hb hd (k ls hl)
    · cases hp
  | lshl =>
    simp only [am_ok, beq_iff_eq] at hok
    subst hok
    simp only [am_pl, am_li] at hp
    split at hp
    · cases hp
      exact lv_lshl hx hb hd rfl (k ls hl)
    · cases hp
  | i2l =>
    simp only [am_ok, beq_iff_eq] at hok
    subst hok
    simp only [am_pl, am_i1] at hp
    split at hp
    · cases hp
      exact lv_i2l hx hb hd rfl (k ls hl)
    · cases hp
  | l2i =>
    simp only [am_ok, beq_iff_eq] at hok
    subst hok
    simp only [am_pl, am_l1] at hp
    split at hp
    · cases hp
      exact lv_l2i hx hb hd rfl (k ls hl)
    · cases hp
  | i2b =>
    simp only [am_ok, beq_iff_eq] at hok
    subst hok
    simp only [am_pl, am_i1] at hp
    split at hp
    · cases hp
      exact lv_i2b hx hb hd rfl (k ls hl)
    · cases hp
  | dup =>
    simp only [am_ok, beq_iff_eq] at hok
    subst hok
    simp only [am_pl] at hp
    split at hp
    · split at hp
      · rename_i hc
        cases hp
        exact lv_dup hx hb hd hc (k ls hl)
      · cases hp
    · cases hp
  | pop =>
    simp only [am_ok, beq_iff_eq] at hok
    subst hok
    simp only [am_pl] at hp
    split at hp
    · split at hp
      · rename_i hc
        cases hp
        exact lv_pop hx hb hd hc (k ls hl)
      · cases hp
    · cases hp
  | dup_x1 =>
    simp only [am_ok, beq_iff_eq] at hok
    subst hok
    simp only [am_pl] at hp
    split at hp
    · split at hp
      · rename_i hc
        cases hp
        exact lv_dup_x1 hx hb hd hc.1 hc.2 (k ls hl)
      · cases hp
    · cases hp
  | dup2 =>
    simp only [am_ok, beq_iff_eq] at hok
    subst hok
    simp only [am_pl] at hp
    split at hp
    · split at hp
      · rename_i hc
        cases hp
        exact lv_dup2_11 hx hb hd hc.1 hc.2 (k ls hl)
      · cases hp
    · cases hp
  | goto n =>
    simp only [am_ok, Bool.and_eq_true, beq_iff_eq, decide_eq_true_eq] at hok
    obtain ⟨rfl, ht⟩ := hok
    cases hp
    exact lv_goto hx hb hd ht (k ls hl)
  | _ => cases hp
/-- the same code at another place -/
def am_go (y pc : Nat) (st : List Value) (pc' : Nat) (st' : List Value) : Prop := ∀ (p : Program) (l : Launch) (e : Env) (R : Room) (s : State) (m : MethodId) (args : Array Value) (below : List Frame) (meth : Method) (c : Code) (H : Heap) (locs : List Loc) (cells slots : Nat) (Q : State → Prop) (ls : Array Slot), p.tables.exec = Jvm.exec → c.code = am_by y → W p l e R s m args below meth c H locs cells slots Q (F0 m pc' ls st') → W p l e R s m args below meth c H locs cells slots Q (F0 m pc ls st)
set_option maxHeartbeats 4000000 in
theorem am_brW {y pc : Nat} {r : am_R} {L : am_L} {st : List Value} {K : am_F → Prop} (hd : decode (am_by y) pc = .ok (r.1, r.2.1)) (hok : am_ok y pc r = true) (h : am_br r (pc, L, st) K) : ∃ pc' st', K (pc', L, st') ∧ am_go y pc st pc' st' := by
  obtain ⟨i, len, v, a, b⟩ := r
  dsimp only at hd
  cases i with
  | ifCond cc n =>
    simp only [am_ok, Bool.and_eq_true, beq_iff_eq, decide_eq_true_eq] at hok
    obtain ⟨rfl, ht⟩ := hok
    obtain ⟨x, st', rfl, h1, h2⟩ := h
    by_cases hc : am_cmp cc x 0
    · refine ⟨_, _, h1 hc, ?_⟩
      intro p l e R s m args below meth c H locs cells slots Q ls hx hb k
      cases cc with
      | eq => exact lv_if_eq hx hb hd ht (fun _ => k) (fun q => absurd hc q)
      | ne => exact lv_if_ne hx hb hd ht (fun _ => k) (fun q => absurd q hc)
      | lt => exact lv_if_lt hx hb hd ht (fun _ => k) (fun q => absurd hc q)
      | ge => exact lv_if_ge hx hb hd ht (fun _ => k) (fun q => absurd hc q)
      | gt => exact lv_if_gt hx hb hd ht (fun _ => k) (fun q => absurd hc q)
      | le => exact lv_if_le hx hb hd ht (fun _ => k) (fun q => absurd hc q)
    · refine ⟨_, _, h2 hc, ?_⟩
      intro p l e R s m args below meth c H locs cells slots Q ls hx hb k
      cases cc with
      | eq => exact lv_if_eq hx hb hd ht (fun q => absurd q hc) (fun _ => k)
      | ne => exact lv_if_ne hx hb hd ht (fun q => absurd q hc) (fun _ => k)
      | lt => exact lv_if_lt hx hb hd ht (fun q => absurd q hc) (fun _ => k)
      | ge => exact lv_if_ge hx hb hd ht (fun q => absurd q hc) (fun _ => k)
      | gt => exact lv_if_gt hx hb hd ht (fun q => absurd q hc) (fun _ => k)
      | le => exact lv_if_le hx hb hd ht (fun q => absurd q hc) (fun _ => k)
  | if_icmp cc n =>
    simp only [am_ok, Bool.and_eq_true, beq_iff_eq, decide_eq_true_eq] at hok
    obtain ⟨rfl, ht⟩ := hok
    obtain ⟨x, z, st', rfl, h1, h2⟩ := h
    by_cases hc : am_cmp cc x z
    · refine ⟨_, _, h1 hc, ?_⟩
      intro p l e R s m args below meth c H locs cells slots Q ls hx hb k
      cases cc with
      | eq => exact lv_icmp_eq hx hb hd ht (fun _ => k) (fun q => absurd hc q)
      | ne => exact lv_icmp_ne hx hb hd ht (fun _ => k) (fun q => absurd q hc)
      | lt => exact lv_icmp_lt hx hb hd ht (fun _ => k) (fun q => absurd hc q)
      | ge => exact lv_icmp_ge hx hb hd ht (fun _ => k) (fun q => absurd hc q)
      | gt => exact lv_icmp_gt hx hb hd ht (fun _ => k) (fun q => absurd hc q)
      | le => exact lv_icmp_le hx hb hd ht (fun _ => k) (fun q => absurd hc q)
    · refine ⟨_, _, h2 hc, ?_⟩
      intro p l e R s m args below meth c H locs cells slots Q ls hx hb k
      cases cc with
      | eq => exact lv_icmp_eq hx hb hd ht (fun q => absurd q hc) (fun _ => k)
      | ne => exact lv_icmp_ne hx hb hd ht (fun q => absurd q hc) (fun _ => k)
      | lt => exact lv_icmp_lt hx hb hd ht (fun q => absurd q hc) (fun _ => k)
      | ge => exact lv_icmp_ge hx hb hd ht (fun q => absurd q hc) (fun _ => k)
      | gt => exact lv_icmp_gt hx hb hd ht (fun q => absurd q hc) (fun _ => k)
      | le => exact lv_icmp_le hx hb hd ht (fun q => absurd q hc) (fun _ => k)
  | ifnull n =>
    simp only [am_ok, Bool.and_eq_true, beq_iff_eq, decide_eq_true_eq] at hok
    obtain ⟨rfl, ht⟩ := hok
    obtain ⟨w, st', rfl, ⟨rfl, h1⟩ | ⟨⟨q, rfl⟩, h1⟩⟩ := h
    · refine ⟨_, _, h1, ?_⟩
      intro p l e R s m args below meth c H locs cells slots Q ls hx hb k
      exact lv_ifnullN hx hb hd ht k
    · refine ⟨_, _, h1, ?_⟩
      intro p l e R s m args below meth c H locs cells slots Q ls hx hb k
      exact lv_ifnull hx hb hd k
  | ifnonnull n =>
    simp only [am_ok, Bool.and_eq_true, beq_iff_eq, decide_eq_true_eq] at hok
    obtain ⟨rfl, ht⟩ := hok
    obtain ⟨w, st', rfl, ⟨rfl, h1⟩ | ⟨⟨q, rfl⟩, h1⟩⟩ := h
    · refine ⟨_, _, h1, ?_⟩
      intro p l e R s m args below meth c H locs cells slots Q ls hx hb k
      exact lv_ifnonnullN hx hb hd k
    · refine ⟨_, _, h1, ?_⟩
      intro p l e R s m args below meth c H locs cells slots Q ls hx hb k
      exact lv_ifnonnull hx hb hd ht k
  | tableswitch n lo hi offs =>
    obtain ⟨x, st', t, rfl, ht, h1⟩ := h
    refine ⟨_, _, h1, ?_⟩
    intro p l e R s m args below meth c H locs cells slots Q ls hx hb k
    rcases ht with ⟨h2, h3⟩ | ⟨h2, h3, o, h4, h5⟩
    · exact lv_tableOut hx hb hd h2 h3 k
    · exact lv_tableIn hx hb hd h2 h3 h4 h5 k
  | lookupswitch n ps =>
    obtain ⟨x, st', t, rfl, ht, h1⟩ := h
    refine ⟨_, _, h1, ?_⟩
    intro p l e R s m args below meth c H locs cells slots Q ls hx hb k
    exact lv_lookup hx hb hd ht.1 rfl ht.2 k
  | _ => exact h.elim
end AMPL
end
section
/-! the cells in the machine's heap -/
def am_cc (tys : List (ClassId × FieldType)) (c : am_C) : va_E := match c with
  | .inl (t, x) => .inl ((tys.getD t (0, .int)).1, x)
  | .inr o => .inr o
def am_A (g : Nat × Nat) : Nat → Prop := fun q => g.1 ≤ q
def am_ro (g : Nat × Nat) (tys : List (ClassId × FieldType)) (a : Nat) (c : am_C) (U : State) (H : Heap) : Prop := ∃ (t n : Nat) (f : Nat → Int32) (cA : ClassId) (ty : FieldType), c = .inl (t, n, .inl f) ∧ tys[t]? = some (cA, ty) ∧ va_T ty a n (fun j => .int (f j)) (am_A g) U H
def am_rep (g : Nat × Nat) (D : va_G) (tys : List (ClassId × FieldType)) (U : State) (σ : am_H) (H : Heap) : Prop := H.size = σ.2.1 ∧ ∀ (a : Nat) (c : am_C), σ.1 a = some c → (g.1 ≤ a ∧ va_at D am_vw (a, am_cc tys c) H) ∨ am_ro g tys a c U H
theorem am_rep.moved {g : Nat × Nat} {D : va_G} {tys : List (ClassId × FieldType)} {u U : State} {σ : am_H} {H : Heap} (hvm : u.vm.Alike U.vm) (h : am_rep g D tys u σ H) : am_rep g D tys U σ H := by
  refine ⟨h.1, fun a c hc => ?_⟩
  rcases h.2 a c hc with h1 | ⟨t, n, f, cA, ty, e1, e2, h1⟩
  · exact Or.inl h1
  · exact Or.inr ⟨t, n, f, cA, ty, e1, e2, h1.moved hvm⟩
theorem am_rep.set {g : Nat × Nat} {D : va_G} {tys : List (ClassId × FieldType)} {U : State} {σ : am_H} {H H1 : Heap} {a : Nat} {c' : am_C} (h : am_rep g D tys U σ H) (ha : g.1 ≤ a) (he : va_at D am_vw (a, am_cc tys c') H1) (z : H1.size = H.size) (oq : ∀ q : Nat, q ≠ a → H1[q]? = H[q]?) : am_rep g D tys U (am_set σ a c') H1 := by
  refine ⟨z.trans h.1, fun q c hq => ?_⟩
  simp only [am_set, am_upd] at hq
  by_cases e : q = a
  · subst e
    rw [if_pos rfl] at hq
    cases hq
    exact Or.inl ⟨ha, he⟩
  · rw [if_neg e] at hq
    rcases h.2 q c hq with ⟨h1, h2⟩ | ⟨t, n, f, cA, ty, e1, e2, h3⟩
    · exact Or.inl ⟨h1, h2.kept (oq q e)⟩
    · exact Or.inr ⟨t, n, f, cA, ty, e1, e2, h3.kept (fun q' _ hA => oq q' (fun z => hA (by rw [z]; exact ha)))⟩
theorem am_rep.push {g : Nat × Nat} {D : va_G} {tys : List (ClassId × FieldType)} {U : State} {σ : am_H} {H H1 : Heap} {c' : am_C} {n' : Nat} (h : am_rep g D tys U σ H) (hB : g.1 ≤ H.size) (he : va_at D am_vw (H.size, am_cc tys c') H1) (z : H1.size = H.size + 1) (oq : ∀ q : Nat, q < H.size → H1[q]? = H[q]?) : am_rep g D tys U (am_psh σ c' n') H1 := by
  refine ⟨by rw [z, h.1]; rfl, fun q c hq => ?_⟩
  simp only [am_psh, am_upd] at hq
  by_cases e : q = σ.2.1
  · subst e
    rw [if_pos rfl] at hq
    cases hq
    rw [← h.1]
    exact Or.inl ⟨hB, he⟩
  · rw [if_neg e] at hq
    rcases h.2 q c hq with ⟨h1, h2⟩ | ⟨t, n, f, cA, ty, e1, e2, h3⟩
    · exact Or.inl ⟨h1, h2.kept (oq q h2.lt)⟩
    · exact Or.inr ⟨t, n, f, cA, ty, e1, e2, h3.kept (fun q' hl _ => oq q' hl)⟩
theorem am_rep.obj {g : Nat × Nat} {D : va_G} {tys : List (ClassId × FieldType)} {U : State} {σ : am_H} {H : Heap} {a ci : Nat} {fs : List Value} (h : am_rep g D tys U σ H) (hc : σ.1 a = some (.inr (ci, fs))) : va_at D am_vw (a, .inr (ci, fs)) H := by
  rcases h.2 a _ hc with ⟨-, h1⟩ | ⟨t, n, f, cA, ty, e1, -⟩
  · exact h1
  · cases e1
theorem am_rep.one {g : Nat × Nat} {D : va_G} {tys : List (ClassId × FieldType)} {U : State} {σ : am_H} {H : Heap} {a ci : Nat} {fs : List Value} (h : am_rep g D tys U σ H) (hc : σ.1 a = some (.inr (ci, fs))) : va_P D am_vw [(a, .inr (ci, fs))] H := by
  intro k q hk
  have hz : k < 1 := (List.getElem?_eq_some_iff.mp hk).1
  rw [show k = 0 by omega] at hk
  cases hk
  exact h.obj hc
theorem am_rep.own {g : Nat × Nat} {D : va_G} {tys : List (ClassId × FieldType)} {U : State} {σ : am_H} {H : Heap} {a : Nat} {c : am_C} (h : am_rep g D tys U σ H) (ha : g.1 ≤ a) (hc : σ.1 a = some c) : va_at D am_vw (a, am_cc tys c) H := by
  rcases h.2 a _ hc with ⟨-, h1⟩ | ⟨t, n, f, cA, ty, e1, e2, cell, -, -, -, -, -, -, h3⟩
  · exact h1
  · exact absurd ha h3
theorem am_getD {tys : List (ClassId × FieldType)} {t : Nat} {q : ClassId × FieldType} (h : tys[t]? = some q) : tys.getD t (0, .int) = q := by
  rw [List.getD_eq_getElem?_getD, h]
  rfl
theorem am_rep.arr {g : Nat × Nat} {D : va_G} {tys : List (ClassId × FieldType)} {U : State} {σ : am_H} {H : Heap} {a t n : Nat} {f : Nat → Int32} {cA : ClassId} {ty : FieldType} (h : am_rep g D tys U σ H) (hK : va_K D am_vw tys U) (hc : σ.1 a = some (.inl (t, n, .inl f))) (ht : tys[t]? = some (cA, ty)) : ∃ cell : Cell, H[a]? = some cell ∧ U.isArrayOf cell ty ∧ cell.vm ≠ .unknown ∧ n ≤ cell.slots.size ∧ cell.slots.size.toInt32 = Int32.ofNat n ∧ ∀ j : Nat, j < n → cell.slots[j]? = some (.int (f j)) := by
  rcases h.2 a _ hc with ⟨-, h1⟩ | ⟨t', n', f', cA', ty', e1, e2, h1⟩
  · have h2 : H[a]? = some (vp_cell (tys.getD t (0, .int)).1 (n, .inl f)) := h1
    rw [am_getD ht] at h2
    refine ⟨_, h2, (hK.2 t _ ht).1 n (fun j => .int (f j)), (fun q => by cases q), ?_, ?_, fun j hj => ?_⟩
    · rw [vp_cell_i, arrV_size]
      exact Nat.le_refl _
    · rw [vp_cell_i, arrV_size]
    · rw [vp_cell_i, arrV_read _ _ hj]
  · cases e1
    cases ht.symm.trans e2
    obtain ⟨cell, q1, q2, q3, q4, q5, q6, -⟩ := h1
    exact ⟨cell, q1, q2, q3, q4, q5, q6⟩
theorem am_rep.arq {g : Nat × Nat} {D : va_G} {tys : List (ClassId × FieldType)} {U : State} {σ : am_H} {H : Heap} {a t n : Nat} {f : Nat → Option Nat} {cA : ClassId} {ty : FieldType} (h : am_rep g D tys U σ H) (hc : σ.1 a = some (.inl (t, n, .inr (.inr (.inr (.inr f)))))) (ht : tys[t]? = some (cA, ty)) : H[a]? = some (vp_cell cA (n, .inr (.inr (.inr (.inr f))))) := by
  rcases h.2 a _ hc with ⟨-, h1⟩ | ⟨t', n', f', cA', ty', e1, -⟩
  · have h2 : H[a]? = some (vp_cell (tys.getD t (0, .int)).1 (n, .inr (.inr (.inr (.inr f))))) := h1
    rw [am_getD ht] at h2
    exact h2
  · cases e1
/-- what all states of the run have -/
def am_G (g : Nat × Nat) (D : va_G) (tys : List (ClassId × FieldType)) (U : State) (H : Heap) : Prop := va_K D am_vw tys U ∧ tys.map (fun q => q.2) = am_tyl ∧ (∀ w ∈ am_nst, va_Nw w U) ∧ (∀ C ∈ am_aos, va_AO C U) ∧ va_Z am_stC am_stN am_stD (.ref g.2) (am_A g) U H ∧ va_Nw (.castable "[B" "java/lang/Cloneable") U
theorem am_tyAt {tys : List (ClassId × FieldType)} (h : tys.map (fun q => q.2) = am_tyl) {t : Nat} {ty : FieldType} (ht : am_tyl[t]? = some ty) : ∃ cA, tys[t]? = some (cA, ty) := by
  rw [← h, List.getElem?_map] at ht
  cases hq : tys[t]? with
  | none => rw [hq] at ht; cases ht
  | some q =>
    rw [hq] at ht
    obtain ⟨cA, ty'⟩ := q
    cases ht
    exact ⟨cA, rfl⟩
def am_Cx (g : Nat × Nat) (D : va_G) (tys : List (ClassId × FieldType)) (y : Nat) (p : Program) (s : State) (m : MethodId) (args : Array Value) (meth : Method) (c : Code) : Prop :=
  p.tables.exec = Jvm.exec ∧ c.code = am_by y ∧ c.maxLocals = am_ml y ∧ s.vm.findClass (am_ow y) = some m.cls ∧ (∀ w, am_w w = true → w.before args s = true) ∧ meth.name = (am_yn y).name ∧ meth.sig.returnType = am_re y ∧ meth.locks = false ∧ am_G g D tys s s.heap ∧ g.1 ≤ s.heap.size
def am_Dx (g : Nat × Nat) (D : va_G) (tys : List (ClassId × FieldType)) (s : State) (σ : am_H) (H : Heap) (locs : List Loc) : Prop := am_rep g D tys s σ H ∧ va_S (am_A g) s.heap H locs
def am_gh (g : Nat × Nat) (D : va_G) (tys : List (ClassId × FieldType)) (d y pc : Nat) (st : List Value) (σ : am_H) (pc' : Nat) (st' : List Value) (σ' : am_H) : Prop := ∀ (p : Program) (l : Launch) (e : Env) (R : Room) (s : State) (m : MethodId) (args : Array Value) (below : List Frame) (meth : Method) (c : Code) (H : Heap) (locs : List Loc) (cells slots : Nat) (Q : State → Prop) (ls : Array Slot), am_Cx g D tys y p s m args meth c → am_Dx g D tys s σ H locs → ls.size = am_ml y → d ≤ R.frames → 60 * d ≤ R.locals → cells + (σ'.2.1 - σ.2.1) ≤ R.cells → slots + (σ'.2.2 - σ.2.2) ≤ R.slots →
  (∀ (H' : Heap) (locs' : List Loc), am_Dx g D tys s σ' H' locs' → W p l e R s m args below meth c H' locs' (cells + (σ'.2.1 - σ.2.1)) (slots + (σ'.2.2 - σ.2.2)) Q (F0 m pc' ls st')) → W p l e R s m args below meth c H locs cells slots Q (F0 m pc ls st)
end
section
theorem am_gh.ro {g : Nat × Nat} {D : va_G} {tys : List (ClassId × FieldType)} {d y pc pc' : Nat} {st st' : List Value} {σ : am_H} (h : ∀ (p : Program) (l : Launch) (e : Env) (R : Room) (s : State) (m : MethodId) (args : Array Value) (below : List Frame) (meth : Method) (c : Code) (H : Heap) (locs : List Loc) (cells slots : Nat) (Q : State → Prop) (ls : Array Slot), am_Cx g D tys y p s m args meth c → am_Dx g D tys s σ H locs → W p l e R s m args below meth c H locs cells slots Q (F0 m pc' ls st') → W p l e R s m args below meth c H locs cells slots Q (F0 m pc ls st)) : am_gh g D tys d y pc st σ pc' st' σ := by
  intro p l e R s m args below meth c H locs cells slots Q ls hC hD _ _ _ _ _ k
  have kk := k H locs hD
  rw [Nat.sub_self, Nat.sub_self, Nat.add_zero, Nat.add_zero] at kk
  exact h p l e R s m args below meth c H locs cells slots Q ls hC hD kk
theorem am_gh.st {g : Nat × Nat} {D : va_G} {tys : List (ClassId × FieldType)} {d y pc pc' : Nat} {st st' : List Value} {σ : am_H} {a : Nat} {c' : am_C} (h : ∀ (p : Program) (l : Launch) (e : Env) (R : Room) (s : State) (m : MethodId) (args : Array Value) (below : List Frame) (meth : Method) (c : Code) (H : Heap) (locs : List Loc) (cells slots : Nat) (Q : State → Prop) (ls : Array Slot), am_Cx g D tys y p s m args meth c → am_Dx g D tys s σ H locs → (∀ (H' : Heap) (locs' : List Loc), am_Dx g D tys s (am_set σ a c') H' locs' → W p l e R s m args below meth c H' locs' cells slots Q (F0 m pc' ls st')) → W p l e R s m args below meth c H locs cells slots Q (F0 m pc ls st)) : am_gh g D tys d y pc st σ pc' st' (am_set σ a c') := by
  intro p l e R s m args below meth c H locs cells slots Q ls hC hD _ _ _ _ _ k
  refine h p l e R s m args below meth c H locs cells slots Q ls hC hD (fun H' locs' hD' => ?_)
  have kk := k H' locs' hD'
  have e1 : (am_set σ a c').2.1 = σ.2.1 := rfl
  have e2 : (am_set σ a c').2.2 = σ.2.2 := rfl
  rw [e1, e2, Nat.sub_self, Nat.sub_self, Nat.add_zero, Nat.add_zero] at kk
  exact kk
theorem am_gh.ps {g : Nat × Nat} {D : va_G} {tys : List (ClassId × FieldType)} {d y pc pc' : Nat} {st st' : List Value} {σ : am_H} {n : Nat} {c' : am_C} (h : ∀ (p : Program) (l : Launch) (e : Env) (R : Room) (s : State) (m : MethodId) (args : Array Value) (below : List Frame) (meth : Method) (c : Code) (H : Heap) (locs : List Loc) (cells slots : Nat) (Q : State → Prop) (ls : Array Slot), am_Cx g D tys y p s m args meth c → am_Dx g D tys s σ H locs → cells + 1 ≤ R.cells → slots + n ≤ R.slots → (∀ (H' : Heap) (locs' : List Loc), am_Dx g D tys s (am_psh σ c' n) H' locs' → W p l e R s m args below meth c H' locs' (cells + 1) (slots + n) Q (F0 m pc' ls st')) → W p l e R s m args below meth c H locs cells slots Q (F0 m pc ls st)) : am_gh g D tys d y pc st σ pc' st' (am_psh σ c' n) := by
  intro p l e R s m args below meth c H locs cells slots Q ls hC hD _ _ _ hc hs k
  have e1 : (am_psh σ c' n).2.1 - σ.2.1 = 1 := by show σ.2.1 + 1 - σ.2.1 = 1; omega
  have e2 : (am_psh σ c' n).2.2 - σ.2.2 = n := by show σ.2.2 + n - σ.2.2 = n; omega
  rw [e1] at hc k
  rw [e2] at hs k
  exact h p l e R s m args below meth c H locs cells slots Q ls hC hD hc hs k
def am_Ts : List Jvm.Cond := lw_tbl.filter am_w
theorem am_ts {args : Array Value} {s : State} (hts : ∀ w, am_w w = true → w.before args s = true) : ∀ w ∈ am_Ts, w.before args s = true := fun w hw => hts w (List.mem_filter.mp hw).2
theorem am_lay (ci : Nat) (h : ci < am_nc) : ∀ w ∈ u_ws (am_cn ci) (am_T ci) (am_nf ci), w ∈ am_Ts := by
  intro w hw
  have h1 := am_layW ci h w hw
  refine List.mem_filter.mpr ⟨?_, h1⟩
  simp only [am_w, Bool.and_eq_true, decide_eq_true_eq] at h1
  exact h1.1
theorem am_okf_of {y i ci k : Nat} (h : am_okf y i ci k = true) : k < am_nf ci ∧ (am_w (.fieldLink (am_ow y) i (am_T ci k).1 (am_T ci k).2.1 (am_T ci k).2.2.1) = true ∨ Jvm.Cond.fieldLinkNest (am_ow y) i (am_T ci k).1 (am_T ci k).2.1 (am_T ci k).2.2.1 am_host ∈ am_nst) := by
  simp only [am_okf, Bool.and_eq_true, Bool.or_eq_true, decide_eq_true_eq] at h
  exact h
set_option maxHeartbeats 4000000 in
theorem am_r_get {g : Nat × Nat} {D : va_G} {tys : List (ClassId × FieldType)} {d y pc a i ci k : Nat} {st fs : List Value} {v : Value} {σ : am_H} (hd : decode (am_by y) pc = .ok (.getfield i, 3)) (hok : am_okf y i ci k = true) (hci : ci < am_nc) (hc : σ.1 a = some (.inr (ci, fs))) (hv : fs[k]? = some v) : am_gh g D tys d y pc (.ref a :: st) σ (pc + 3) (v :: st) σ := by
  refine am_gh.ro fun p l e R s m args below meth c H locs cells slots Q ls hC hD kk => ?_
  obtain ⟨hx, hb, hml, hown, hts, hnm, hr, hlk, hG, hB⟩ := hC
  obtain ⟨hrep, hS⟩ := hD
  obtain ⟨hk, h1 | h1⟩ := am_okf_of hok
  · exact va_get hx hb (am_ts hts) (am_lay ci hci) hown hG.1 (hrep.one hc) 0 rfl (am_cl ci hci) k hk (hts _ h1) (fun _ q => q) hv hd kk
  · exact va_getN hx hb (am_ts hts) (am_lay ci hci) hown hG.1 (hrep.one hc) 0 rfl (am_cl ci hci) k hk (va_Nw.use rfl (hG.2.2.1 _ h1)) (fun _ q => q) hv hd kk
set_option maxHeartbeats 4000000 in
theorem am_r_put {g : Nat × Nat} {D : va_G} {tys : List (ClassId × FieldType)} {d y pc a i ci k : Nat} {st fs : List Value} {v : Value} {σ : am_H} (hd : decode (am_by y) pc = .ok (.putfield i, 3)) (hok : am_okf y i ci k = true) (hfin : (am_T ci k).2.2.2 = false ∨ (am_w (.fieldLink (am_ow y) i (am_T ci k).1 (am_T ci k).2.1 (am_T ci k).2.2.1) = true ∧ (am_yn y).name = "<init>" ∧ (am_T ci k).1 = am_ow y)) (hci : ci < am_nc) (ha : g.1 ≤ a) (hc : σ.1 a = some (.inr (ci, fs))) (hl : k < fs.length) (hn : narrow (am_ty ci k) v = v) (hfit : fits (am_ty ci k) v = true) : am_gh g D tys d y pc (v :: .ref a :: st) σ (pc + 3) st (am_set σ a (.inr (ci, fs.set k v))) := by
  refine am_gh.st fun p l e R s m args below meth c H locs cells slots Q ls hC hD kk => ?_
  obtain ⟨hx, hb, hml, hown, hts, hnm, hr, hlk, hG, hB⟩ := hC
  obtain ⟨hrep, hS⟩ := hD
  obtain ⟨hk, hlink⟩ := am_okf_of hok
  have hcl := am_cl ci hci
  have hap := va_apart (own := am_ow y) (am_ts hts) (am_lay ci hci) (am_ty ci) (am_tyok ci hci) (am_tynm ci hci) hG.1 hcl
  obtain ⟨r, h1, cell, q1, q2, q3, q4⟩ := hrep.obj hc
  have hr' : r = (am_cn ci, am_T ci, am_nf ci) := Option.some.inj (h1.symm.trans hcl)
  subst hr'
  obtain ⟨hS', hfc, kC, hkC, hkind⟩ := hG.1.1 ci _ hcl
  obtain ⟨cf, kf, fi, f, hi, hsl⟩ := hS' k hk
  have hlay := (am_ts hts) _ (am_lay ci hci _ (u_in_lay hk))
  have hst := (u_facts hfc hkC (u_lays (am_ts hts) (am_lay ci hci) hk) hi).1
  have fin : ∀ H' : Heap, H'[a]? = some (cell.setSlot f.slot v) → H'.size = H.size → (∀ q, q ≠ a → H'[q]? = H[q]?) → W p l e R s m args below meth c H' (locs ++ [⟨a, f.slot⟩]) cells slots Q (F0 m (pc + 3) ls st) := by
    intro H' e1 e2 e3
    rw [hsl] at e1
    exact kk H' _ ⟨hrep.set ha ⟨_, hcl, t_OB.to (V := updV (vp_V fs) k v) ⟨_, e1, q2, q3, t_set q4 hap hk v⟩ (fun j _ => vp_updV_set hl v j)⟩ e2 e3, hS.put e2 e3 ha⟩
  have hlt : f.slot < cell.slots.size := by rw [hsl]; exact k2_hasslot (q4 k hk)
  rcases Bool.eq_false_or_eq_true (am_T ci k).2.2.2 with hf | hf
  · obtain ⟨w1, w2, w3⟩ : am_w (.fieldLink (am_ow y) i (am_T ci k).1 (am_T ci k).2.1 (am_T ci k).2.2.1) = true ∧ (am_yn y).name = "<init>" ∧ (am_T ci k).1 = am_ow y := by
      rcases hfin with z | z
      · rw [hf] at z; cases z
      · exact z
    unfold u_lay at hlay
    rw [if_pos hf] at hlay
    have hcf : m.cls = cf := by
      obtain ⟨_, _, c', _, _, _, -, -, hf', -, -, -, hown2, -⟩ := Cond.laysFinal_spec hlay
      have e1 : c' = cf := by have := hi.symm.trans hf'; simp at this; exact this.1.symm
      rw [w3] at hown2
      rw [← e1]; exact Option.some.inj (hown.symm.trans hown2)
    have h6 := u_fits hfc hkC hkind (Or.inr hlay) hi (am_tyok ci hci k hk) hn hfit
    exact W.putFinK hx hb hown (hts _ w1) hi hst hcf (hnm.trans w2) (by rw [q2]; exact h6) q1 q3 hlt rfl rfl hd fin
  · unfold u_lay at hlay
    rw [if_neg (by rw [hf]; decide)] at hlay
    have h6 := u_store hfc hkC hkind hlay hi (am_tyok ci hci k hk) hn hfit
    rcases hlink with w1 | w1
    · exact W.putK hx hb (f := f) ⟨hown, hts _ w1, ⟨_, _, _, hi⟩, hst⟩ (by rw [q2]; exact h6) q1 q3 hlt rfl rfl hd fin
    · exact va_WputK hx hb (f := f) hown (va_Nw.use rfl (hG.2.2.1 _ w1)) hi hst (by rw [q2]; exact h6) q1 q3 hlt rfl rfl hd fin
theorem am_r_sta {g : Nat × Nat} {D : va_G} {tys : List (ClassId × FieldType)} {d y pc i : Nat} {st : List Value} {σ : am_H} (hd : decode (am_by y) pc = .ok (.getstatic i, 3)) (hok : am_w (.fieldLink (am_ow y) i am_stC am_stN am_stD) = true ∨ Jvm.Cond.fieldLinkNest (am_ow y) i am_stC am_stN am_stD am_host ∈ am_nst) : am_gh g D tys d y pc st σ (pc + 3) (.ref g.2 :: st) σ := by
  refine am_gh.ro fun p l e R s m args below meth c H locs cells slots Q ls hC hD kk => ?_
  obtain ⟨hx, hb, hml, hown, hts, hnm, hr, hlk, hG, hB⟩ := hC
  obtain ⟨hrep, hS⟩ := hD
  rcases hok with h1 | h1
  · exact va_gets hx hb hG.2.2.2.2.1 hS hown (hts _ h1) (fun _ q => q) hd kk
  · exact va_getsN hx hb hG.2.2.2.2.1 hS hown (va_Nw.use rfl (hG.2.2.1 _ h1)) (fun _ q => q) hd kk
theorem am_Sps {A : Nat → Prop} {H0 H H1 : Heap} {locs : List Loc} (hS : va_S A H0 H locs) (z : H1.size = H.size + 1) (o1 : ∀ q : Nat, q < H.size → H1[q]? = H[q]?) : va_S A H0 H1 locs := ⟨Nat.le_trans hS.1 (by omega), fun x h1 h2 => (o1 x (Nat.lt_of_lt_of_le h1 hS.1)).trans (hS.2.1 x h1 h2), hS.2.2⟩
theorem am_r_new {g : Nat × Nat} {D : va_G} {tys : List (ClassId × FieldType)} {d y pc i ci : Nat} {st : List Value} {σ : am_H} (hd : decode (am_by y) pc = .ok (.new i, 3)) (hok : am_w (.classLink (am_ow y) i (am_cn ci)) = true) (hci : ci < am_nc) : am_gh g D tys d y pc st σ (pc + 3) (.ref σ.2.1 :: st) (am_psh σ (.inr (ci, am_def ci)) (am_nf ci)) := by
  refine am_gh.ps fun p l e R s m args below meth c H locs cells slots Q ls hC hD hcl hsl kk => ?_
  obtain ⟨hx, hb, hml, hown, hts, hnm, hr, hlk, hG, hB⟩ := hC
  obtain ⟨hrep, hS⟩ := hD
  have hcl := am_cl ci hci
  have hKn := hG.1.1 ci _ hcl
  refine W.newcK hx hb hown (hts _ hok) (hts _ (am_ins ci hci)) (hts _ (am_ini ci hci)) rfl hd ‹_› ‹_› hKn.2.1 hrep.1 fun H1 kC hkC e1 z1 o1 => ?_
  rw [← hrep.1] at e1 z1 o1
  exact kk H1 locs ⟨hrep.push (Nat.le_trans hB hS.1) ⟨_, hcl, (u_born (am_ty ci) (am_ts hts) (am_lay ci hci) hKn hkC e1 (am_tyok ci hci)).to (am_dfl ci hci)⟩ z1 o1, am_Sps hS z1 o1⟩
theorem am_r_nwa {g : Nat × Nat} {D : va_G} {tys : List (ClassId × FieldType)} {d y pc t : Nat} {ty : ArrayType} {n : Int32} {st : List Value} {σ : am_H} (hd : decode (am_by y) pc = .ok (.newarray ty, 2)) (ht : am_tyl[t]? = some (newarray.typeOf ty)) (hw : am_w (.arrayClass (newarray.typeOf ty)) = true) (hdf : defaultValue (newarray.typeOf ty) = .int 0) (hcb : componentBytes (newarray.typeOf ty) ≤ 8) (hn : ¬ n < 0) (hm : n.toNatClampNeg ≤ 65536) : am_gh g D tys d y pc (.int n :: st) σ (pc + 2) (.ref σ.2.1 :: st) (am_psh σ (.inl (t, n.toNatClampNeg, .inl (fun _ => 0))) n.toNatClampNeg) := by
  refine am_gh.ps fun p l e R s m args below meth c H locs cells slots Q ls hC hD hcl hsl kk => ?_
  obtain ⟨hx, hb, hml, hown, hts, hnm, hr, hlk, hG, hB⟩ := hC
  obtain ⟨hrep, hS⟩ := hD
  obtain ⟨cA, hA⟩ := am_tyAt hG.2.1 ht
  refine va_newaK hx hb (hts _ hw) rfl hd rfl hn rfl (Nat.le_trans (Nat.mul_le_mul hm hcb) (by decide)) ‹_› ‹_› hrep.1 fun H1 cA' e1 z1 o1 hAr hNm => ?_
  rw [← hrep.1] at e1 z1 o1
  have e0 : cA' = cA := by
    have h2 := (hG.1.2 t _ hA).2
    have h3 : s.vm.findClass ("[" ++ (newarray.typeOf ty).toString) = some cA := by cases ty <;> exact h2
    exact Option.some.inj (hNm.symm.trans h3)
  subst e0
  refine kk H1 locs ⟨hrep.push (Nat.le_trans hB hS.1) ?_ z1 o1, am_Sps hS z1 o1⟩
  show H1[H.size]? = some (vp_cell (tys.getD t (0, .int)).1 _)
  rw [am_getD hA, vp_cell_i, e1, hdf]
theorem am_r_nwq {g : Nat × Nat} {D : va_G} {tys : List (ClassId × FieldType)} {d y pc i t : Nat} {C : String} {n : Int32} {st : List Value} {σ : am_H} (hd : decode (am_by y) pc = .ok (.anewarray i, 3)) (ht : am_tyl[t]? = some (.object C)) (hw : am_w (.classLink (am_ow y) i C) = true) (ho : C ∈ am_aos) (hn : ¬ n < 0) (hm : n.toNatClampNeg ≤ 65536) : am_gh g D tys d y pc (.int n :: st) σ (pc + 3) (.ref σ.2.1 :: st) (am_psh σ (.inl (t, n.toNatClampNeg, .inr (.inr (.inr (.inr (fun _ => none)))))) n.toNatClampNeg) := by
  refine am_gh.ps fun p l e R s m args below meth c H locs cells slots Q ls hC hD hcl hsl kk => ?_
  obtain ⟨hx, hb, hml, hown, hts, hnm, hr, hlk, hG, hB⟩ := hC
  obtain ⟨hrep, hS⟩ := hD
  obtain ⟨cA, hA⟩ := am_tyAt hG.2.1 ht
  refine W.anew hx hb hown (hts _ hw) (va_AO.use (hG.2.2.2.1 _ ho)) rfl hd rfl hn (Nat.le_trans (Nat.mul_le_mul hm (Nat.le_refl 4)) (by decide)) ‹_› ‹_› fun cA' kA comp f1 f2 f3 f4 => ?_
  have e0 : cA' = cA := by
    obtain ⟨kA', comp', -, -, -, h3⟩ := (hG.1.2 t _ hA).2
    exact Option.some.inj (f1.symm.trans h3)
  subst e0
  generalize hH1 : H.push ({ cls := cA', slots := Array.replicate n.toNatClampNeg .null, vm := .none } : Cell) = H1
  have z1 : H1.size = H.size + 1 := by rw [← hH1, Array.size_push]
  have e1 : H1[H.size]? = some (arrV cA' n.toNatClampNeg (fun _ => .null)) := by rw [← hH1, Array.getElem?_push_size, ← arrV_new]
  have o1 : ∀ q : Nat, q < H.size → H1[q]? = H[q]? := fun q hq => by rw [← hH1, Array.getElem?_push, if_neg (Nat.ne_of_lt hq)]
  have k2 := kk H1 locs ⟨hrep.push (Nat.le_trans hB hS.1) (by
    show H1[H.size]? = some (vp_cell (tys.getD t (0, .int)).1 _)
    rw [am_getD hA, vp_cell_q, e1]
    rfl) z1 o1, am_Sps hS z1 o1⟩
  rw [← hrep.1] at k2
  exact k2
theorem am_r_len {g : Nat × Nat} {D : va_G} {tys : List (ClassId × FieldType)} {d y pc a t : Nat} {st : List Value} {σ : am_H} {x : vp_A} {ty : FieldType} (hd : decode (am_by y) pc = .ok (.arraylength, 1)) (ht : am_tyl[t]? = some ty) (hx0 : (∃ f, x.2 = .inl f) ∨ (∃ f, x.2 = .inr (.inr (.inr (.inr f))))) (hc : σ.1 a = some (.inl (t, x))) : am_gh g D tys d y pc (.ref a :: st) σ (pc + 1) (.int (Int32.ofNat x.1) :: st) σ := by
  refine am_gh.ro fun p l e R s m args below meth c H locs cells slots Q ls hC hD kk => ?_
  obtain ⟨hx, hb, hml, hown, hts, hnm, hr, hlk, hG, hB⟩ := hC
  obtain ⟨hrep, hS⟩ := hD
  obtain ⟨cA, hA⟩ := am_tyAt hG.2.1 ht
  obtain ⟨n, x⟩ := x
  rcases hx0 with ⟨f, hf⟩ | ⟨f, hf⟩
  · dsimp only at hf
    subst hf
    obtain ⟨cell, c1, c2, c3, c4, c5, c6⟩ := hrep.arr hG.1 hc hA
    exact W.alen (n := Int32.ofNat n) hx hb c1 c2 c5 rfl rfl hd kk
  · dsimp only at hf
    subst hf
    have c1 := hrep.arq hc hA
    exact W.alen (n := Int32.ofNat n) hx hb c1 ((hG.1.2 t _ hA).1 n (fun j => va_rf (f j))) (by rw [vp_cell_q, arrV_size] <;> rfl) rfl rfl hd kk
theorem am_r_iald {g : Nat × Nat} {D : va_G} {tys : List (ClassId × FieldType)} {d y pc a t n : Nat} {i : Int32} {st : List Value} {σ : am_H} {f : Nat → Int32} (hd : decode (am_by y) pc = .ok (.iaload, 1)) (ht : am_tyl[t]? = some .int) (hc : σ.1 a = some (.inl (t, n, .inl f))) (hin : vp_in i n) : am_gh g D tys d y pc (.int i :: .ref a :: st) σ (pc + 1) (.int (f i.toNatClampNeg) :: st) σ := by
  refine am_gh.ro fun p l e R s m args below meth c H locs cells slots Q ls hC hD kk => ?_
  obtain ⟨hx, hb, hml, hown, hts, hnm, hr, hlk, hG, hB⟩ := hC
  obtain ⟨hrep, hS⟩ := hD
  obtain ⟨cA, hA⟩ := am_tyAt hG.2.1 ht
  obtain ⟨cell, c1, c2, c3, c4, c5, c6⟩ := hrep.arr hG.1 hc hA
  have hlt : i.toNatClampNeg < n := Nat.not_le.mp fun q => hin (Or.inr q)
  exact W.iald (v := .int (f i.toNatClampNeg)) hx hb c1 c2 c3 (fun q => hin (q.imp id (fun z => Nat.le_trans c4 z))) (c6 _ hlt) rfl rfl hd kk
theorem am_r_bald {g : Nat × Nat} {D : va_G} {tys : List (ClassId × FieldType)} {d y pc a t n : Nat} {i : Int32} {st : List Value} {σ : am_H} {f : Nat → Int32} (hd : decode (am_by y) pc = .ok (.baload, 1)) (ht : am_tyl[t]? = some .byte) (hc : σ.1 a = some (.inl (t, n, .inl f))) (hin : vp_in i n) : am_gh g D tys d y pc (.int i :: .ref a :: st) σ (pc + 1) (.int (f i.toNatClampNeg) :: st) σ := by
  refine am_gh.ro fun p l e R s m args below meth c H locs cells slots Q ls hC hD kk => ?_
  obtain ⟨hx, hb, hml, hown, hts, hnm, hr, hlk, hG, hB⟩ := hC
  obtain ⟨hrep, hS⟩ := hD
  obtain ⟨cA, hA⟩ := am_tyAt hG.2.1 ht
  obtain ⟨cell, c1, c2, c3, c4, c5, c6⟩ := hrep.arr hG.1 hc hA
  have hlt : i.toNatClampNeg < n := Nat.not_le.mp fun q => hin (Or.inr q)
  exact W.bald (v := .int (f i.toNatClampNeg)) hx hb c1 c2 c3 (fun q => hin (q.imp id (fun z => Nat.le_trans c4 z))) (c6 _ hlt) rfl rfl hd kk
theorem am_r_zald {g : Nat × Nat} {D : va_G} {tys : List (ClassId × FieldType)} {d y pc a t n : Nat} {i : Int32} {st : List Value} {σ : am_H} {f : Nat → Int32} (hd : decode (am_by y) pc = .ok (.baload, 1)) (ht : am_tyl[t]? = some .boolean) (hc : σ.1 a = some (.inl (t, n, .inl f))) (hin : vp_in i n) : am_gh g D tys d y pc (.int i :: .ref a :: st) σ (pc + 1) (.int (f i.toNatClampNeg) :: st) σ := by
  refine am_gh.ro fun p l e R s m args below meth c H locs cells slots Q ls hC hD kk => ?_
  obtain ⟨hx, hb, hml, hown, hts, hnm, hr, hlk, hG, hB⟩ := hC
  obtain ⟨hrep, hS⟩ := hD
  obtain ⟨cA, hA⟩ := am_tyAt hG.2.1 ht
  obtain ⟨cell, c1, c2, c3, c4, c5, c6⟩ := hrep.arr hG.1 hc hA
  have hlt : i.toNatClampNeg < n := Nat.not_le.mp fun q => hin (Or.inr q)
  exact W.zald (v := .int (f i.toNatClampNeg)) hx hb c1 c2 c3 (fun q => hin (q.imp id (fun z => Nat.le_trans c4 z))) (c6 _ hlt) rfl rfl hd kk
theorem am_r_aald {g : Nat × Nat} {D : va_G} {tys : List (ClassId × FieldType)} {d y pc a t n : Nat} {i : Int32} {st : List Value} {σ : am_H} {C : String} {f : Nat → Option Nat} (hd : decode (am_by y) pc = .ok (.aaload, 1)) (ht : am_tyl[t]? = some (.object C)) (hc : σ.1 a = some (.inl (t, n, .inr (.inr (.inr (.inr f)))))) (hin : vp_in i n) : am_gh g D tys d y pc (.int i :: .ref a :: st) σ (pc + 1) (va_rf (f i.toNatClampNeg) :: st) σ := by
  refine am_gh.ro fun p l e R s m args below meth c H locs cells slots Q ls hC hD kk => ?_
  obtain ⟨hx, hb, hml, hown, hts, hnm, hr, hlk, hG, hB⟩ := hC
  obtain ⟨hrep, hS⟩ := hD
  obtain ⟨cA, hA⟩ := am_tyAt hG.2.1 ht
  have hlt : i.toNatClampNeg < n := Nat.not_le.mp fun q => hin (Or.inr q)
  exact W.aald (v := va_rf (f i.toNatClampNeg)) (ty := .object C) hx hb (hrep.arq hc hA) ((hG.1.2 t _ hA).1 n (fun j => va_rf (f j))) rfl (fun q => by cases q) (by show ¬ (i < 0 ∨ (arrV _ _ _).slots.size ≤ _); rw [arrV_size]; exact hin) (by show (arrV _ _ _).slots[_]? = _; rw [arrV_read _ _ hlt]) rfl rfl hd kk
theorem am_r_iast {g : Nat × Nat} {D : va_G} {tys : List (ClassId × FieldType)} {d y pc a t n : Nat} {i : Int32} {st : List Value} {σ : am_H} {x : Int32} {f : Nat → Int32} (hd : decode (am_by y) pc = .ok (.iastore, 1)) (ht : am_tyl[t]? = some .int) (ha : g.1 ≤ a) (hc : σ.1 a = some (.inl (t, n, .inl f))) (hin : vp_in i n) : am_gh g D tys d y pc (.int x :: .int i :: .ref a :: st) σ (pc + 1) st (am_set σ a (.inl (t, n, .inl (upd f i.toNatClampNeg x)))) := by
  refine am_gh.st fun p l e R s m args below meth c H locs cells slots Q ls hC hD kk => ?_
  obtain ⟨hx, hb, hml, hown, hts, hnm, hr, hlk, hG, hB⟩ := hC
  obtain ⟨hrep, hS⟩ := hD
  obtain ⟨cA, hA⟩ := am_tyAt hG.2.1 ht
  have hat : H[a]? = some (vp_cell cA (n, .inl f)) := by
    have h1 : H[a]? = some (vp_cell (tys.getD t (0, .int)).1 (n, .inl f)) := hrep.own ha hc
    rw [am_getD hA] at h1
    exact h1
  refine W.iast hx hb hat ((hG.1.2 t _ hA).1 n (fun j => .int (f j))) (fun q => by cases q) (by show ¬ (i < 0 ∨ (arrV _ _ _).slots.size ≤ _); rw [arrV_size]; exact hin) rfl rfl hd fun H1 e1 z1 oq => ?_
  refine kk H1 _ ⟨hrep.set ha ?_ z1 oq, hS.put z1 oq ha⟩
  show H1[a]? = some (vp_cell (tys.getD t (0, .int)).1 _)
  rw [am_getD hA, e1, vp_cell_i, vp_cell_i, arrV_store]
  congr 2
  funext q
  by_cases hq : q = i.toNatClampNeg
  · subst hq
    simp [updV, upd, vp_nar]
    try rfl
  · simp [updV, upd, hq]
theorem am_r_bast {g : Nat × Nat} {D : va_G} {tys : List (ClassId × FieldType)} {d y pc a t n : Nat} {i : Int32} {st : List Value} {σ : am_H} {x : Int32} {f : Nat → Int32} (hd : decode (am_by y) pc = .ok (.bastore, 1)) (ht : am_tyl[t]? = some .byte) (ha : g.1 ≤ a) (hc : σ.1 a = some (.inl (t, n, .inl f))) (hin : vp_in i n) : am_gh g D tys d y pc (.int x :: .int i :: .ref a :: st) σ (pc + 1) st (am_set σ a (.inl (t, n, .inl (upd f i.toNatClampNeg (vp_nar .byte x))))) := by
  refine am_gh.st fun p l e R s m args below meth c H locs cells slots Q ls hC hD kk => ?_
  obtain ⟨hx, hb, hml, hown, hts, hnm, hr, hlk, hG, hB⟩ := hC
  obtain ⟨hrep, hS⟩ := hD
  obtain ⟨cA, hA⟩ := am_tyAt hG.2.1 ht
  have hat : H[a]? = some (vp_cell cA (n, .inl f)) := by
    have h1 : H[a]? = some (vp_cell (tys.getD t (0, .int)).1 (n, .inl f)) := hrep.own ha hc
    rw [am_getD hA] at h1
    exact h1
  refine W.bast hx hb hat ((hG.1.2 t _ hA).1 n (fun j => .int (f j))) (fun q => by cases q) (by show ¬ (i < 0 ∨ (arrV _ _ _).slots.size ≤ _); rw [arrV_size]; exact hin) rfl rfl hd fun H1 e1 z1 oq => ?_
  refine kk H1 _ ⟨hrep.set ha ?_ z1 oq, hS.put z1 oq ha⟩
  show H1[a]? = some (vp_cell (tys.getD t (0, .int)).1 _)
  rw [am_getD hA, e1, vp_cell_i, vp_cell_i, arrV_store]
  congr 2
  funext q
  by_cases hq : q = i.toNatClampNeg
  · subst hq
    simp [updV, upd, vp_nar]
    try rfl
  · simp [updV, upd, hq]
theorem am_r_zast {g : Nat × Nat} {D : va_G} {tys : List (ClassId × FieldType)} {d y pc a t n : Nat} {i : Int32} {st : List Value} {σ : am_H} {x : Int32} {f : Nat → Int32} (hd : decode (am_by y) pc = .ok (.bastore, 1)) (ht : am_tyl[t]? = some .boolean) (ha : g.1 ≤ a) (hc : σ.1 a = some (.inl (t, n, .inl f))) (hin : vp_in i n) : am_gh g D tys d y pc (.int x :: .int i :: .ref a :: st) σ (pc + 1) st (am_set σ a (.inl (t, n, .inl (upd f i.toNatClampNeg (vp_nar .boolean x))))) := by
  refine am_gh.st fun p l e R s m args below meth c H locs cells slots Q ls hC hD kk => ?_
  obtain ⟨hx, hb, hml, hown, hts, hnm, hr, hlk, hG, hB⟩ := hC
  obtain ⟨hrep, hS⟩ := hD
  obtain ⟨cA, hA⟩ := am_tyAt hG.2.1 ht
  have hat : H[a]? = some (vp_cell cA (n, .inl f)) := by
    have h1 : H[a]? = some (vp_cell (tys.getD t (0, .int)).1 (n, .inl f)) := hrep.own ha hc
    rw [am_getD hA] at h1
    exact h1
  refine W.zast hx hb hat ((hG.1.2 t _ hA).1 n (fun j => .int (f j))) (fun q => by cases q) (by show ¬ (i < 0 ∨ (arrV _ _ _).slots.size ≤ _); rw [arrV_size]; exact hin) rfl rfl hd fun H1 e1 z1 oq => ?_
  refine kk H1 _ ⟨hrep.set ha ?_ z1 oq, hS.put z1 oq ha⟩
  show H1[a]? = some (vp_cell (tys.getD t (0, .int)).1 _)
  rw [am_getD hA, e1, vp_cell_i, vp_cell_i, arrV_store]
  congr 2
  funext q
  by_cases hq : q = i.toNatClampNeg
  · subst hq
    simp [updV, upd, vp_nar]
    try rfl
  · simp [updV, upd, hq]
theorem am_r_aast {g : Nat × Nat} {D : va_G} {tys : List (ClassId × FieldType)} {d y pc a t n : Nat} {i : Int32} {st : List Value} {σ : am_H} {v ci : Nat} {f : Nat → Option Nat} {fs : List Value} (hd : decode (am_by y) pc = .ok (.aastore, 1)) (hci : ci < am_nc) (ht : am_tyl[t]? = some (.object (am_cn ci))) (ha : g.1 ≤ a) (hc : σ.1 a = some (.inl (t, n, .inr (.inr (.inr (.inr f)))))) (hv : σ.1 v = some (.inr (ci, fs))) (hin : vp_in i n) : am_gh g D tys d y pc (.ref v :: .int i :: .ref a :: st) σ (pc + 1) st (am_set σ a (.inl (t, n, .inr (.inr (.inr (.inr (va_up f i.toNatClampNeg (some v)))))))) := by
  refine am_gh.st fun p l e R s m args below meth c H locs cells slots Q ls hC hD kk => ?_
  obtain ⟨hx, hb, hml, hown, hts, hnm, hr, hlk, hG, hB⟩ := hC
  obtain ⟨hrep, hS⟩ := hD
  obtain ⟨cA, hA⟩ := am_tyAt hG.2.1 ht
  have hlt : i.toNatClampNeg < n := Nat.not_le.mp fun q => hin (Or.inr q)
  have h0 : ¬ i < 0 := fun q => hin (Or.inl q)
  obtain ⟨r', hr', cellV, g1, g2, g3, -⟩ := hrep.obj hv
  have hcls := (hG.1.1 ci _ (am_cl ci hci)).2
  obtain ⟨kA, comp, k1, k2, k3, -⟩ := (hG.1.2 t _ hA).2
  have hcomp : comp = D.1 ci := Option.some.inj (k3.symm.trans hcls.1)
  subst hcomp
  obtain ⟨kC, hkC, -⟩ := hcls.2
  refine W.aast hx hb (hrep.arq hc hA) (fun q h => by cases h) (fun h => by cases h) k1 k2 rfl hkC ⟨h0, by show _ < (arrV _ _ _).slots.size; rw [arrV_size]; exact hlt⟩ g1 (fun q h => by rw [g3] at h; cases h) (by rw [g2]; exact hkC) (by rw [g2]; exact va_assign hcls) rfl rfl hd fun H1 e1 z1 oq => ?_
  refine kk H1 _ ⟨hrep.set ha ?_ z1 oq, hS.put z1 oq ha⟩
  show H1[a]? = some (vp_cell (tys.getD t (0, .int)).1 _)
  rw [am_getD hA, e1, vp_cell_q, vp_cell_q, arrV_store]
  congr 2
  funext q
  by_cases hq : q = i.toNatClampNeg
  · subst hq
    simp [updV, va_up, va_rf]
  · simp [updV, va_up, hq]
theorem am_r_div {g : Nat × Nat} {D : va_G} {tys : List (ClassId × FieldType)} {d y pc : Nat} {x z : Int32} {st : List Value} {σ : am_H} (hd : decode (am_by y) pc = .ok (.idiv, 1)) (hz : ¬ z = 0) : am_gh g D tys d y pc (.int z :: .int x :: st) σ (pc + 1) (.int (x / z) :: st) σ := by
  refine am_gh.ro fun p l e R s m args below meth c H locs cells slots Q ls hC hD kk => ?_
  obtain ⟨hx, hb, hml, hown, hts, hnm, hr, hlk, hG, hB⟩ := hC
  obtain ⟨hrep, hS⟩ := hD
  exact lv_idiv hx hb hd hz kk
theorem am_r_rem {g : Nat × Nat} {D : va_G} {tys : List (ClassId × FieldType)} {d y pc : Nat} {x z : Int32} {st : List Value} {σ : am_H} (hd : decode (am_by y) pc = .ok (.irem, 1)) (hz : ¬ z = 0) : am_gh g D tys d y pc (.int z :: .int x :: st) σ (pc + 1) (.int (x - x / z * z) :: st) σ := by
  refine am_gh.ro fun p l e R s m args below meth c H locs cells slots Q ls hC hD kk => ?_
  obtain ⟨hx, hb, hml, hown, hts, hnm, hr, hlk, hG, hB⟩ := hC
  obtain ⟨hrep, hS⟩ := hD
  exact lv_irem hx hb hd hz kk
section AMO
variable {p : Program} {l : Launch} {e : Env} {R : Room} {s : State} {m : MethodId} {args : Array Value} {below : List Frame} {meth : Method} {c : Code} {H : Heap} {locs : List Loc} {cells slots : Nat} {Q : State → Prop}
theorem am_r_obj {y pc i a : Nat} {st : List Value} {ls : Array Slot} (hx : p.tables.exec = Jvm.exec) (hb : c.code = am_by y) (hown : s.vm.findClass (am_ow y) = some m.cls) (hts : ∀ w, am_w w = true → w.before args s = true) (hsz : ls.size = c.maxLocals) (hok : am_w (.methodLink (am_ow y) i objectInit) = true) (hd : decode (am_by y) pc = .ok (.invokespecial i, 3)) (hsum : (st.map fun v => v.category).sum ≤ 8) (hf : 1 ≤ R.frames) (hlo : 20 ≤ R.locals) (k : W p l e R s m args below meth c H locs cells slots Q (F0 m (pc + 3) ls st)) : W p l e R s m args below meth c H locs cells slots Q (F0 m pc ls (.ref a :: st)) :=
  W.objInit hx hb hown (hts _ hok) (hts _ am_oi1) (hts _ am_oi2) rfl hsz rfl hd hf (by show 2 * 0 + _ + 12 ≤ _; omega) k
end AMO
end
section
theorem am_nmB {s : State} {D : va_G} {tys : List (ClassId × FieldType)} {cA : ClassId} (hK : va_K D am_vw tys s) (hA : tys[1]? = some (cA, .byte)) : s.vm.findClass "[B" = some cA := by
  have h := (hK.2 1 _ hA).2
  exact h
theorem am_r_cst {g : Nat × Nat} {D : va_G} {tys : List (ClassId × FieldType)} {d y pc a n i : Nat} {st : List Value} {σ : am_H} {f : Nat → Int32} (hd : decode (am_by y) pc = .ok (.checkcast i, 3)) (hok : am_w (.classLink (am_ow y) i "[B") = true) (ha : g.1 ≤ a) (hc : σ.1 a = some (.inl (1, n, .inl f))) : am_gh g D tys d y pc (.ref a :: st) σ (pc + 3) (.ref a :: st) σ := by
  refine am_gh.ro fun p l e R s m args below meth c H locs cells slots Q ls hC hD kk => ?_
  obtain ⟨hx, hb, hml, hown, hts, hnm, hr, hlk, hG, hB⟩ := hC
  obtain ⟨hrep, hS⟩ := hD
  obtain ⟨cA, hA⟩ := am_tyAt (t := 1) hG.2.1 rfl
  have hat : va_at D am_vw (a, .inl (cA, n, .inl f)) H := by
    have h1 := hrep.own ha hc
    have h2 : H[a]? = some (vp_cell (tys.getD 1 (0, .int)).1 (n, .inl f)) := h1
    rw [am_getD hA] at h2
    exact h2
  have hP : va_P D am_vw [(a, .inl (cA, n, .inl f))] H := by
    intro k q hk
    have hz : k < 1 := (List.getElem?_eq_some_iff.mp hk).1
    rw [show k = 0 by omega] at hk
    cases hk
    exact hat
  exact va_castA hx hb hown (hts _ hok) hP 0 rfl (am_nmB hG.1 hA) hd kk
section AMN
variable {p : Program} {l : Launch} {e : Env} {R : Room} {s : State} {m : MethodId} {args : Array Value} {below : List Frame} {meth : Method} {c : Code} {H : Heap} {locs : List Loc} {cells slots : Nat} {Q : State → Prop}
set_option maxHeartbeats 4000000 in
theorem am_r_cpy {gg : Nat × Nat} {D : va_G} {tys : List (ClassId × FieldType)} {y pc i a a0 n0 n1 : Nat} {n dp sp : Int32} {f f1 : Nat → Int32} {rest : List Value} {σ : am_H} {ls : Array Slot} (hC : am_Cx gg D tys y p s m args meth c) (hDx : am_Dx gg D tys s σ H locs) (hsz : ls.size = c.maxLocals) (hok : am_w (.methodLink (am_ow y) i arraycopyName) = true) (hd : decode (am_by y) pc = .ok (.invokestatic i, 3)) (hsum : (rest.map fun v => v.category).sum ≤ 8) (hfr : 1 ≤ R.frames) (hlo : 60 ≤ R.locals) (ha : gg.1 ≤ a) (ha0 : gg.1 ≤ a0) (hc0 : σ.1 a0 = some (.inl (1, n0, .inl f))) (hc : σ.1 a = some (.inl (1, n1, .inl f1))) (h1 : ¬ sp < 0) (h2 : ¬ dp < 0) (h3 : ¬ n < 0) (h4 : sp.toNatClampNeg + n.toNatClampNeg ≤ n0) (h5 : dp.toNatClampNeg + n.toNatClampNeg ≤ n1) (hfit : ∀ i, i < n.toNatClampNeg → fits .byte (.int (f (sp.toNatClampNeg + i))) = true)
    (kk : ∀ (H' : Heap) (locs' : List Loc), am_Dx gg D tys s (am_set σ a (.inl (1, n1, .inl (va_cpy f f1 sp.toNatClampNeg dp.toNatClampNeg n.toNatClampNeg)))) H' locs' → W p l e R s m args below meth c H' locs' cells slots Q (F0 m (pc + 3) ls rest)) : W p l e R s m args below meth c H locs cells slots Q (F0 m pc ls (.int n :: .int dp :: .ref a :: .int sp :: .ref a0 :: rest)) := by
  obtain ⟨hx, hb, hml, hown, hts, hnm, hr, hlk, hG, hB⟩ := hC
  obtain ⟨hrep, hS⟩ := hDx
  have nn : ∀ z : Int32, ¬ z < 0 → z.toInt = (z.toNatClampNeg : Int) := by
    intro z hz
    have hz0 : (0 : Int) ≤ z.toInt := by
      have := Int32.not_lt.mp hz
      simpa using Int32.le_iff_toInt_le.mp this
    show z.toInt = ((z.toInt.toNat : Nat) : Int)
    omega
  obtain ⟨cA, hA⟩ := am_tyAt (t := 1) hG.2.1 rfl
  have get : ∀ {b k : Nat} {q : Nat → Int32}, gg.1 ≤ b → σ.1 b = some (.inl (1, k, .inl q)) → H[b]? = some (vp_cell cA (k, .inl q)) := by
    intro b k q hb' hq
    have e1 : H[b]? = some (vp_cell (tys.getD 1 (0, .int)).1 (k, .inl q)) := hrep.own hb' hq
    rw [am_getD hA] at e1
    exact e1
  have g0 := get ha0 hc0
  have g1 := get ha hc
  intro T hT X
  obtain ⟨-, k0, hk0, cm0, hkk0⟩ := (hG.1.2 1 _ hA).1 n0 (fun j => .int (f j))
  obtain ⟨-, k1, hk1, cm1, hkk1⟩ := (hG.1.2 1 _ hA).1 n1 (fun j => .int (f1 j))
  have hw : nativeFrameWords "java/lang/System" "arraycopy" 5 + 11 + 8 ≤ 60 := by decide +kernel
  obtain ⟨vm', X', step⟩ := X.arraycopy hx hown (hts _ hok) (hts _ am_cp1.1) (hts _ am_cp1.2.1) (hts _ am_cp1.2.2) (src := a0) (dst := a) (cs := vp_cell cA (n0, .inl f)) (cd := vp_cell cA (n1, .inl f1)) (srcPos := sp) (destPos := dp) (n := n) (by rw [hT]; exact g0) (by rw [hT]; exact g1)
    (fun _ h => by cases h) (fun _ h => by cases h) (fun h => by cases h) (fun h => by cases h) hk0 hk1 hkk0 hkk1 (by simp [refKind]) h1 h2 h3
    (by rw [nn sp h1, nn n h3]; show ¬ _ > ((arrV cA n0 (fun j => .int (f j))).slots.size : Int); rw [arrV_size]; omega)
    (by rw [nn dp h2, nn n h3]; show ¬ _ > ((arrV cA n1 (fun j => .int (f1 j))).slots.size : Int); rw [arrV_size]; omega)
    (fun vm₁ _ i hi => by
      have e0 : (vp_cell cA (n0, .inl f)).slots.getD (sp.toNatClampNeg + i) .null = .int (f (sp.toNatClampNeg + i)) := by
        show (arrV cA n0 (fun j => .int (f j))).slots.getD _ _ = _
        rw [Array.getD_eq_getD_getElem?, arrV_read _ _ (by omega)]
        rfl
      rw [e0]
      exact ⟨hfit i hi, trivial⟩)
    (g := F0 m pc ls (.int n :: .int dp :: .ref a :: .int sp :: .ref a0 :: rest)) rfl hsz (rest := rest) rfl (by rw [hb]; exact hd) hfr (by show 2 * 0 + _ + _ ≤ _; omega)
  have e1 : copied (vp_cell cA (n0, .inl f)) (vp_cell cA (n1, .inl f1)) sp dp n = vp_cell cA (n1, .inl (va_cpy f f1 sp.toNatClampNeg dp.toNatClampNeg n.toNatClampNeg)) := va_copied (fun z => .int z) cA cA f f1 h4
  rw [e1] at X' step
  have hl : a < H.size := (Array.getElem?_eq_some_iff.mp g1).1
  generalize hnc : vp_cell cA (n1, .inl (va_cpy f f1 sp.toNatClampNeg dp.toNatClampNeg n.toNatClampNeg)) = nc at X' step
  have hheap : ((T.setVm vm').setCell a nc).heap = H.setIfInBounds a nc := by rw [← hT]; rfl
  have oq : ∀ q : Nat, q ≠ a → (H.setIfInBounds a nc)[q]? = H[q]? := fun q hq => by simp [Array.getElem?_setIfInBounds, Ne.symm hq]
  obtain ⟨t, a1, b1⟩ := kk _ _ ⟨hrep.set ha (show (H.setIfInBounds a nc)[a]? = some (vp_cell (tys.getD 1 (0, .int)).1 _) by rw [am_getD hA, hnc]; simp [Array.getElem?_setIfInBounds, hl]) (by simp) oq, ⟨by simp; exact hS.1, fun q g1 g2 => by
      rw [oq q (fun e => g2 (by rw [e]; exact ha))]
      exact hS.2.1 q g1 g2, fun q hq => by
      rcases List.mem_append.mp hq with h | h
      · exact hS.2.2 q h
      · obtain ⟨z, -, hz⟩ := List.mem_map.mp h
        rw [← hz]
        exact ha⟩⟩ _ hheap X'
  exact ⟨t, step t a1, b1⟩
set_option maxHeartbeats 4000000 in
theorem am_r_cln {gg : Nat × Nat} {D : va_G} {tys : List (ClassId × FieldType)} {y pc i a n : Nat} {f : Nat → Int32} {rest : List Value} {σ : am_H} {ls : Array Slot} (hC : am_Cx gg D tys y p s m args meth c) (hDx : am_Dx gg D tys s σ H locs) (hsz : ls.size = c.maxLocals) (hok : am_w (.methodLink (am_ow y) i ⟨"[B", "clone", "()Ljava/lang/Object;"⟩) = true) (hd : decode (am_by y) pc = .ok (.invokevirtual i, 3)) (hsum : (rest.map fun v => v.category).sum ≤ 8) (hfr : 1 ≤ R.frames) (hlo : 60 ≤ R.locals) (ha : gg.1 ≤ a) (hc : σ.1 a = some (.inl (1, n, .inl f))) (hfit : ∀ i, i < n → fits .byte (.int (f i)) = true) (hcells : cells + 1 ≤ R.cells) (hslots : slots + n ≤ R.slots)
    (kk : ∀ (H' : Heap) (locs' : List Loc), am_Dx gg D tys s (am_psh σ (.inl (1, n, .inl f)) n) H' locs' → W p l e R s m args below meth c H' locs' (cells + 1) (slots + n) Q (F0 m (pc + 3) ls (.ref σ.2.1 :: rest))) : W p l e R s m args below meth c H locs cells slots Q (F0 m pc ls (.ref a :: rest)) := by
  obtain ⟨hx, hb, hml, hown, hts, hnm, hr, hlk, hG, hB⟩ := hC
  obtain ⟨hrep, hS⟩ := hDx
  obtain ⟨cA, hA⟩ := am_tyAt (t := 1) hG.2.1 rfl
  have g1 : H[a]? = some (vp_cell cA (n, .inl f)) := by
    have e1 : H[a]? = some (vp_cell (tys.getD 1 (0, .int)).1 (n, .inl f)) := hrep.own ha hc
    rw [am_getD hA] at e1
    exact e1
  have hnB := am_nmB hG.1 hA
  have hszc : (vp_cell cA (n, .inl f)).slots.size = n := arrV_size _ _ _
  have hcellE : ({ cls := (vp_cell cA (n, .inl f)).cls, slots := (vp_cell cA (n, .inl f)).slots } : Cell) = vp_cell cA (n, .inl f) := rfl
  obtain ⟨c0, t0', f1, f2, f3⟩ := Cond.castable_spec (va_Nw.use (A := args) rfl hG.2.2.2.2.2)
  cases hnB.symm.trans f1
  intro T hT X
  have hcellT : T.heap[a]? = some (vp_cell cA (n, .inl f)) := by rw [hT]; exact g1
  obtain ⟨-, kA, hkA, comp, hkind⟩ := State.isArrayOf_alike X.warmed.alike ((hG.1.2 1 _ hA).1 0 (fun _ => .null))
  obtain ⟨-, kS, hkS, compS, hkindS⟩ := (hG.1.2 1 _ hA).1 0 (fun _ => .null)
  obtain ⟨vm', X', st⟩ := X.cloneArray hx hown (hts _ hok) (hts _ am_cn1.1) (hts _ am_cn1.2.1) (hts _ am_cn1.2.2.1) (hts _ am_cn1.2.2.2) (a := a) (cell := vp_cell cA (n, .inl f)) hcellT (fun k h => by cases h) (fun h => by cases h) hnB f2 f3
    (fun i v hv => by
      have hk' : T.vm.classes[cA]? = some kA := hkA
      have hlt : i < n := by
        have := (Array.getElem?_eq_some_iff.mp hv).1
        rw [hszc] at this
        exact this
      have e2 : (vp_cell cA (n, .inl f)).slots[i]? = some (.int (f i)) := by rw [vp_cell_i, arrV_read _ _ hlt]
      rw [e2] at hv
      cases hv
      show T.fitsSlot cA _ i _ = true
      simpa [State.fitsSlot, State.slotType?, hk', hkind] using hfit i hlt)
    (g := F0 m pc ls (.ref a :: rest)) rfl hsz rfl (by rw [hb]; exact hd) hfr (by show 2 * 0 + _ + 14 ≤ _; omega) hcells (by rw [hszc]; exact hslots) (hloader := Vm.clonesLoader_of_array hkS hkindS)
  rw [hcellE, hszc] at X'
  generalize hH1 : H.push (vp_cell cA (n, .inl f)) = H1
  have z1 : H1.size = H.size + 1 := by rw [← hH1, Array.size_push]
  have e1 : H1[H.size]? = some (vp_cell cA (n, .inl f)) := by rw [← hH1, Array.getElem?_push_size]
  have o1 : ∀ q : Nat, q < H.size → H1[q]? = H[q]? := fun q hq => by rw [← hH1, Array.getElem?_push, if_neg (Nat.ne_of_lt hq)]
  obtain ⟨t, b1, b2⟩ := kk H1 locs ⟨hrep.push (Nat.le_trans hB hS.1) (show H1[H.size]? = some (vp_cell (tys.getD 1 (0, .int)).1 _) by rw [am_getD hA]; exact e1) z1 o1, am_Sps hS z1 o1⟩
    ((T.setVm vm').pushCell (vp_cell cA (n, .inl f))) (by rw [← hH1, ← hT]; rfl) X'
  refine ⟨t, st t ?_, b2⟩
  rw [hcellE, hT, hrep.1]
  exact b1
end AMN
end
section
theorem am_alltd {α : Type} {f : α → Bool} {l : List α} (n : Nat) (h1 : (l.take n).all f = true) (h2 : (l.drop n).all f = true) : l.all f = true := by
  rw [← List.take_append_drop n l, List.all_append, h1, h2]
  rfl
theorem am_t1_0 : (((am_r1.drop 0).take 24).all fun q => decide (decode (am_by 1) q.1 = .ok (q.2.1, q.2.2.1)) && am_ok 1 q.1 q.2) = true := by decide +kernel
theorem am_t1_1 : (((am_r1.drop 24).take 24).all fun q => decide (decode (am_by 1) q.1 = .ok (q.2.1, q.2.2.1)) && am_ok 1 q.1 q.2) = true := by decide +kernel
theorem am_t1_2 : ((am_r1.drop 48).all fun q => decide (decode (am_by 1) q.1 = .ok (q.2.1, q.2.2.1)) && am_ok 1 q.1 q.2) = true := by decide +kernel
theorem am_u1_1 : ((am_r1.drop 24).all fun q => decide (decode (am_by 1) q.1 = .ok (q.2.1, q.2.2.1)) && am_ok 1 q.1 q.2) = true := am_alltd 24 am_t1_1 (by rw [List.drop_drop]; exact am_t1_2)
theorem am_u1_0 : ((am_r1.drop 0).all fun q => decide (decode (am_by 1) q.1 = .ok (q.2.1, q.2.2.1)) && am_ok 1 q.1 q.2) = true := am_alltd 24 am_t1_0 (by rw [List.drop_drop]; exact am_u1_1)
theorem am_t1 : (am_r1.all fun q => decide (decode (am_by 1) q.1 = .ok (q.2.1, q.2.2.1)) && am_ok 1 q.1 q.2) = true := am_u1_0
theorem am_t2 : (am_r2.all fun q => decide (decode (am_by 2) q.1 = .ok (q.2.1, q.2.2.1)) && am_ok 2 q.1 q.2) = true := by decide +kernel
theorem am_t3 : (am_r3.all fun q => decide (decode (am_by 3) q.1 = .ok (q.2.1, q.2.2.1)) && am_ok 3 q.1 q.2) = true := by decide +kernel
theorem am_t4 : (am_r4.all fun q => decide (decode (am_by 4) q.1 = .ok (q.2.1, q.2.2.1)) && am_ok 4 q.1 q.2) = true := by decide +kernel
theorem am_t5 : (am_r5.all fun q => decide (decode (am_by 5) q.1 = .ok (q.2.1, q.2.2.1)) && am_ok 5 q.1 q.2) = true := by decide +kernel
theorem am_t6_0 : (((am_r6.drop 0).take 24).all fun q => decide (decode (am_by 6) q.1 = .ok (q.2.1, q.2.2.1)) && am_ok 6 q.1 q.2) = true := by decide +kernel
theorem am_t6_1 : ((am_r6.drop 24).all fun q => decide (decode (am_by 6) q.1 = .ok (q.2.1, q.2.2.1)) && am_ok 6 q.1 q.2) = true := by decide +kernel
theorem am_u6_0 : ((am_r6.drop 0).all fun q => decide (decode (am_by 6) q.1 = .ok (q.2.1, q.2.2.1)) && am_ok 6 q.1 q.2) = true := am_alltd 24 am_t6_0 (by rw [List.drop_drop]; exact am_t6_1)
theorem am_t6 : (am_r6.all fun q => decide (decode (am_by 6) q.1 = .ok (q.2.1, q.2.2.1)) && am_ok 6 q.1 q.2) = true := am_u6_0
theorem am_t7 : (am_r7.all fun q => decide (decode (am_by 7) q.1 = .ok (q.2.1, q.2.2.1)) && am_ok 7 q.1 q.2) = true := by decide +kernel
theorem am_t8 : (am_r8.all fun q => decide (decode (am_by 8) q.1 = .ok (q.2.1, q.2.2.1)) && am_ok 8 q.1 q.2) = true := by decide +kernel
theorem am_t9 : (am_r9.all fun q => decide (decode (am_by 9) q.1 = .ok (q.2.1, q.2.2.1)) && am_ok 9 q.1 q.2) = true := by decide +kernel
theorem am_t10 : (am_r10.all fun q => decide (decode (am_by 10) q.1 = .ok (q.2.1, q.2.2.1)) && am_ok 10 q.1 q.2) = true := by decide +kernel
theorem am_t11_0 : (((am_r11.drop 0).take 24).all fun q => decide (decode (am_by 11) q.1 = .ok (q.2.1, q.2.2.1)) && am_ok 11 q.1 q.2) = true := by decide +kernel
theorem am_t11_1 : (((am_r11.drop 24).take 24).all fun q => decide (decode (am_by 11) q.1 = .ok (q.2.1, q.2.2.1)) && am_ok 11 q.1 q.2) = true := by decide +kernel
theorem am_t11_2 : (((am_r11.drop 48).take 24).all fun q => decide (decode (am_by 11) q.1 = .ok (q.2.1, q.2.2.1)) && am_ok 11 q.1 q.2) = true := by decide +kernel
theorem am_t11_3 : ((am_r11.drop 72).all fun q => decide (decode (am_by 11) q.1 = .ok (q.2.1, q.2.2.1)) && am_ok 11 q.1 q.2) = true := by decide +kernel
theorem am_u11_2 : ((am_r11.drop 48).all fun q => decide (decode (am_by 11) q.1 = .ok (q.2.1, q.2.2.1)) && am_ok 11 q.1 q.2) = true := am_alltd 24 am_t11_2 (by rw [List.drop_drop]; exact am_t11_3)
theorem am_u11_1 : ((am_r11.drop 24).all fun q => decide (decode (am_by 11) q.1 = .ok (q.2.1, q.2.2.1)) && am_ok 11 q.1 q.2) = true := am_alltd 24 am_t11_1 (by rw [List.drop_drop]; exact am_u11_2)
theorem am_u11_0 : ((am_r11.drop 0).all fun q => decide (decode (am_by 11) q.1 = .ok (q.2.1, q.2.2.1)) && am_ok 11 q.1 q.2) = true := am_alltd 24 am_t11_0 (by rw [List.drop_drop]; exact am_u11_1)
theorem am_t11 : (am_r11.all fun q => decide (decode (am_by 11) q.1 = .ok (q.2.1, q.2.2.1)) && am_ok 11 q.1 q.2) = true := am_u11_0
theorem am_t12 : (am_r12.all fun q => decide (decode (am_by 12) q.1 = .ok (q.2.1, q.2.2.1)) && am_ok 12 q.1 q.2) = true := by decide +kernel
theorem am_t13_0 : (((am_r13.drop 0).take 24).all fun q => decide (decode (am_by 13) q.1 = .ok (q.2.1, q.2.2.1)) && am_ok 13 q.1 q.2) = true := by decide +kernel
theorem am_t13_1 : ((am_r13.drop 24).all fun q => decide (decode (am_by 13) q.1 = .ok (q.2.1, q.2.2.1)) && am_ok 13 q.1 q.2) = true := by decide +kernel
theorem am_u13_0 : ((am_r13.drop 0).all fun q => decide (decode (am_by 13) q.1 = .ok (q.2.1, q.2.2.1)) && am_ok 13 q.1 q.2) = true := am_alltd 24 am_t13_0 (by rw [List.drop_drop]; exact am_t13_1)
theorem am_t13 : (am_r13.all fun q => decide (decode (am_by 13) q.1 = .ok (q.2.1, q.2.2.1)) && am_ok 13 q.1 q.2) = true := am_u13_0
theorem am_t14_0 : (((am_r14.drop 0).take 24).all fun q => decide (decode (am_by 14) q.1 = .ok (q.2.1, q.2.2.1)) && am_ok 14 q.1 q.2) = true := by decide +kernel
theorem am_t14_1 : (((am_r14.drop 24).take 24).all fun q => decide (decode (am_by 14) q.1 = .ok (q.2.1, q.2.2.1)) && am_ok 14 q.1 q.2) = true := by decide +kernel
theorem am_t14_2 : (((am_r14.drop 48).take 24).all fun q => decide (decode (am_by 14) q.1 = .ok (q.2.1, q.2.2.1)) && am_ok 14 q.1 q.2) = true := by decide +kernel
theorem am_t14_3 : ((am_r14.drop 72).all fun q => decide (decode (am_by 14) q.1 = .ok (q.2.1, q.2.2.1)) && am_ok 14 q.1 q.2) = true := by decide +kernel
theorem am_u14_2 : ((am_r14.drop 48).all fun q => decide (decode (am_by 14) q.1 = .ok (q.2.1, q.2.2.1)) && am_ok 14 q.1 q.2) = true := am_alltd 24 am_t14_2 (by rw [List.drop_drop]; exact am_t14_3)
theorem am_u14_1 : ((am_r14.drop 24).all fun q => decide (decode (am_by 14) q.1 = .ok (q.2.1, q.2.2.1)) && am_ok 14 q.1 q.2) = true := am_alltd 24 am_t14_1 (by rw [List.drop_drop]; exact am_u14_2)
theorem am_u14_0 : ((am_r14.drop 0).all fun q => decide (decode (am_by 14) q.1 = .ok (q.2.1, q.2.2.1)) && am_ok 14 q.1 q.2) = true := am_alltd 24 am_t14_0 (by rw [List.drop_drop]; exact am_u14_1)
theorem am_t14 : (am_r14.all fun q => decide (decode (am_by 14) q.1 = .ok (q.2.1, q.2.2.1)) && am_ok 14 q.1 q.2) = true := am_u14_0
theorem am_t15_0 : (((am_r15.drop 0).take 24).all fun q => decide (decode (am_by 15) q.1 = .ok (q.2.1, q.2.2.1)) && am_ok 15 q.1 q.2) = true := by decide +kernel
theorem am_t15_1 : ((am_r15.drop 24).all fun q => decide (decode (am_by 15) q.1 = .ok (q.2.1, q.2.2.1)) && am_ok 15 q.1 q.2) = true := by decide +kernel
theorem am_u15_0 : ((am_r15.drop 0).all fun q => decide (decode (am_by 15) q.1 = .ok (q.2.1, q.2.2.1)) && am_ok 15 q.1 q.2) = true := am_alltd 24 am_t15_0 (by rw [List.drop_drop]; exact am_t15_1)
theorem am_t15 : (am_r15.all fun q => decide (decode (am_by 15) q.1 = .ok (q.2.1, q.2.2.1)) && am_ok 15 q.1 q.2) = true := am_u15_0
theorem am_t16_0 : (((am_r16.drop 0).take 24).all fun q => decide (decode (am_by 16) q.1 = .ok (q.2.1, q.2.2.1)) && am_ok 16 q.1 q.2) = true := by decide +kernel
theorem am_t16_1 : ((am_r16.drop 24).all fun q => decide (decode (am_by 16) q.1 = .ok (q.2.1, q.2.2.1)) && am_ok 16 q.1 q.2) = true := by decide +kernel
theorem am_u16_0 : ((am_r16.drop 0).all fun q => decide (decode (am_by 16) q.1 = .ok (q.2.1, q.2.2.1)) && am_ok 16 q.1 q.2) = true := am_alltd 24 am_t16_0 (by rw [List.drop_drop]; exact am_t16_1)
theorem am_t16 : (am_r16.all fun q => decide (decode (am_by 16) q.1 = .ok (q.2.1, q.2.2.1)) && am_ok 16 q.1 q.2) = true := am_u16_0
theorem am_t17 : (am_r17.all fun q => decide (decode (am_by 17) q.1 = .ok (q.2.1, q.2.2.1)) && am_ok 17 q.1 q.2) = true := by decide +kernel
theorem am_t18_0 : (((am_r18.drop 0).take 24).all fun q => decide (decode (am_by 18) q.1 = .ok (q.2.1, q.2.2.1)) && am_ok 18 q.1 q.2) = true := by decide +kernel
theorem am_t18_1 : (((am_r18.drop 24).take 24).all fun q => decide (decode (am_by 18) q.1 = .ok (q.2.1, q.2.2.1)) && am_ok 18 q.1 q.2) = true := by decide +kernel
theorem am_t18_2 : (((am_r18.drop 48).take 24).all fun q => decide (decode (am_by 18) q.1 = .ok (q.2.1, q.2.2.1)) && am_ok 18 q.1 q.2) = true := by decide +kernel
theorem am_t18_3 : ((am_r18.drop 72).all fun q => decide (decode (am_by 18) q.1 = .ok (q.2.1, q.2.2.1)) && am_ok 18 q.1 q.2) = true := by decide +kernel
theorem am_u18_2 : ((am_r18.drop 48).all fun q => decide (decode (am_by 18) q.1 = .ok (q.2.1, q.2.2.1)) && am_ok 18 q.1 q.2) = true := am_alltd 24 am_t18_2 (by rw [List.drop_drop]; exact am_t18_3)
theorem am_u18_1 : ((am_r18.drop 24).all fun q => decide (decode (am_by 18) q.1 = .ok (q.2.1, q.2.2.1)) && am_ok 18 q.1 q.2) = true := am_alltd 24 am_t18_1 (by rw [List.drop_drop]; exact am_u18_2)
theorem am_u18_0 : ((am_r18.drop 0).all fun q => decide (decode (am_by 18) q.1 = .ok (q.2.1, q.2.2.1)) && am_ok 18 q.1 q.2) = true := am_alltd 24 am_t18_0 (by rw [List.drop_drop]; exact am_u18_1)
theorem am_t18 : (am_r18.all fun q => decide (decode (am_by 18) q.1 = .ok (q.2.1, q.2.2.1)) && am_ok 18 q.1 q.2) = true := am_u18_0
theorem am_t19 : (am_r19.all fun q => decide (decode (am_by 19) q.1 = .ok (q.2.1, q.2.2.1)) && am_ok 19 q.1 q.2) = true := by decide +kernel
end
section
theorem am_t20 : (am_r20.all fun q => decide (decode (am_by 20) q.1 = .ok (q.2.1, q.2.2.1)) && am_ok 20 q.1 q.2) = true := by decide +kernel
theorem am_t21_0 : (((am_r21.drop 0).take 24).all fun q => decide (decode (am_by 21) q.1 = .ok (q.2.1, q.2.2.1)) && am_ok 21 q.1 q.2) = true := by decide +kernel
theorem am_t21_1 : (((am_r21.drop 24).take 24).all fun q => decide (decode (am_by 21) q.1 = .ok (q.2.1, q.2.2.1)) && am_ok 21 q.1 q.2) = true := by decide +kernel
theorem am_t21_2 : ((am_r21.drop 48).all fun q => decide (decode (am_by 21) q.1 = .ok (q.2.1, q.2.2.1)) && am_ok 21 q.1 q.2) = true := by decide +kernel
theorem am_u21_1 : ((am_r21.drop 24).all fun q => decide (decode (am_by 21) q.1 = .ok (q.2.1, q.2.2.1)) && am_ok 21 q.1 q.2) = true := am_alltd 24 am_t21_1 (by rw [List.drop_drop]; exact am_t21_2)
theorem am_u21_0 : ((am_r21.drop 0).all fun q => decide (decode (am_by 21) q.1 = .ok (q.2.1, q.2.2.1)) && am_ok 21 q.1 q.2) = true := am_alltd 24 am_t21_0 (by rw [List.drop_drop]; exact am_u21_1)
theorem am_t21 : (am_r21.all fun q => decide (decode (am_by 21) q.1 = .ok (q.2.1, q.2.2.1)) && am_ok 21 q.1 q.2) = true := am_u21_0
theorem am_t22 : (am_r22.all fun q => decide (decode (am_by 22) q.1 = .ok (q.2.1, q.2.2.1)) && am_ok 22 q.1 q.2) = true := by decide +kernel
theorem am_t23 : (am_r23.all fun q => decide (decode (am_by 23) q.1 = .ok (q.2.1, q.2.2.1)) && am_ok 23 q.1 q.2) = true := by decide +kernel
theorem am_t24_0 : (((am_r24.drop 0).take 24).all fun q => decide (decode (am_by 24) q.1 = .ok (q.2.1, q.2.2.1)) && am_ok 24 q.1 q.2) = true := by decide +kernel
theorem am_t24_1 : ((am_r24.drop 24).all fun q => decide (decode (am_by 24) q.1 = .ok (q.2.1, q.2.2.1)) && am_ok 24 q.1 q.2) = true := by decide +kernel
theorem am_u24_0 : ((am_r24.drop 0).all fun q => decide (decode (am_by 24) q.1 = .ok (q.2.1, q.2.2.1)) && am_ok 24 q.1 q.2) = true := am_alltd 24 am_t24_0 (by rw [List.drop_drop]; exact am_t24_1)
theorem am_t24 : (am_r24.all fun q => decide (decode (am_by 24) q.1 = .ok (q.2.1, q.2.2.1)) && am_ok 24 q.1 q.2) = true := am_u24_0
theorem am_t25 : (am_r25.all fun q => decide (decode (am_by 25) q.1 = .ok (q.2.1, q.2.2.1)) && am_ok 25 q.1 q.2) = true := by decide +kernel
theorem am_t26_0 : (((am_r26.drop 0).take 24).all fun q => decide (decode (am_by 26) q.1 = .ok (q.2.1, q.2.2.1)) && am_ok 26 q.1 q.2) = true := by decide +kernel
theorem am_t26_1 : ((am_r26.drop 24).all fun q => decide (decode (am_by 26) q.1 = .ok (q.2.1, q.2.2.1)) && am_ok 26 q.1 q.2) = true := by decide +kernel
theorem am_u26_0 : ((am_r26.drop 0).all fun q => decide (decode (am_by 26) q.1 = .ok (q.2.1, q.2.2.1)) && am_ok 26 q.1 q.2) = true := am_alltd 24 am_t26_0 (by rw [List.drop_drop]; exact am_t26_1)
theorem am_t26 : (am_r26.all fun q => decide (decode (am_by 26) q.1 = .ok (q.2.1, q.2.2.1)) && am_ok 26 q.1 q.2) = true := am_u26_0
theorem am_t27 : (am_r27.all fun q => decide (decode (am_by 27) q.1 = .ok (q.2.1, q.2.2.1)) && am_ok 27 q.1 q.2) = true := by decide +kernel
theorem am_t28 : (am_r28.all fun q => decide (decode (am_by 28) q.1 = .ok (q.2.1, q.2.2.1)) && am_ok 28 q.1 q.2) = true := by decide +kernel
theorem am_t29_0 : (((am_r29.drop 0).take 24).all fun q => decide (decode (am_by 29) q.1 = .ok (q.2.1, q.2.2.1)) && am_ok 29 q.1 q.2) = true := by decide +kernel
theorem am_t29_1 : (((am_r29.drop 24).take 24).all fun q => decide (decode (am_by 29) q.1 = .ok (q.2.1, q.2.2.1)) && am_ok 29 q.1 q.2) = true := by decide +kernel
theorem am_t29_2 : ((am_r29.drop 48).all fun q => decide (decode (am_by 29) q.1 = .ok (q.2.1, q.2.2.1)) && am_ok 29 q.1 q.2) = true := by decide +kernel
theorem am_u29_1 : ((am_r29.drop 24).all fun q => decide (decode (am_by 29) q.1 = .ok (q.2.1, q.2.2.1)) && am_ok 29 q.1 q.2) = true := am_alltd 24 am_t29_1 (by rw [List.drop_drop]; exact am_t29_2)
theorem am_u29_0 : ((am_r29.drop 0).all fun q => decide (decode (am_by 29) q.1 = .ok (q.2.1, q.2.2.1)) && am_ok 29 q.1 q.2) = true := am_alltd 24 am_t29_0 (by rw [List.drop_drop]; exact am_u29_1)
theorem am_t29 : (am_r29.all fun q => decide (decode (am_by 29) q.1 = .ok (q.2.1, q.2.2.1)) && am_ok 29 q.1 q.2) = true := am_u29_0
theorem am_t30 : (am_r30.all fun q => decide (decode (am_by 30) q.1 = .ok (q.2.1, q.2.2.1)) && am_ok 30 q.1 q.2) = true := by decide +kernel
theorem am_t31 : (am_r31.all fun q => decide (decode (am_by 31) q.1 = .ok (q.2.1, q.2.2.1)) && am_ok 31 q.1 q.2) = true := by decide +kernel
theorem am_t32_0 : (((am_r32.drop 0).take 24).all fun q => decide (decode (am_by 32) q.1 = .ok (q.2.1, q.2.2.1)) && am_ok 32 q.1 q.2) = true := by decide +kernel
theorem am_t32_1 : ((am_r32.drop 24).all fun q => decide (decode (am_by 32) q.1 = .ok (q.2.1, q.2.2.1)) && am_ok 32 q.1 q.2) = true := by decide +kernel
theorem am_u32_0 : ((am_r32.drop 0).all fun q => decide (decode (am_by 32) q.1 = .ok (q.2.1, q.2.2.1)) && am_ok 32 q.1 q.2) = true := am_alltd 24 am_t32_0 (by rw [List.drop_drop]; exact am_t32_1)
theorem am_t32 : (am_r32.all fun q => decide (decode (am_by 32) q.1 = .ok (q.2.1, q.2.2.1)) && am_ok 32 q.1 q.2) = true := am_u32_0
theorem am_t33 : (am_r33.all fun q => decide (decode (am_by 33) q.1 = .ok (q.2.1, q.2.2.1)) && am_ok 33 q.1 q.2) = true := by decide +kernel
theorem am_t34_0 : (((am_r34.drop 0).take 24).all fun q => decide (decode (am_by 34) q.1 = .ok (q.2.1, q.2.2.1)) && am_ok 34 q.1 q.2) = true := by decide +kernel
theorem am_t34_1 : ((am_r34.drop 24).all fun q => decide (decode (am_by 34) q.1 = .ok (q.2.1, q.2.2.1)) && am_ok 34 q.1 q.2) = true := by decide +kernel
theorem am_u34_0 : ((am_r34.drop 0).all fun q => decide (decode (am_by 34) q.1 = .ok (q.2.1, q.2.2.1)) && am_ok 34 q.1 q.2) = true := am_alltd 24 am_t34_0 (by rw [List.drop_drop]; exact am_t34_1)
theorem am_t34 : (am_r34.all fun q => decide (decode (am_by 34) q.1 = .ok (q.2.1, q.2.2.1)) && am_ok 34 q.1 q.2) = true := am_u34_0
theorem am_t35_0 : (((am_r35.drop 0).take 24).all fun q => decide (decode (am_by 35) q.1 = .ok (q.2.1, q.2.2.1)) && am_ok 35 q.1 q.2) = true := by decide +kernel
theorem am_t35_1 : ((am_r35.drop 24).all fun q => decide (decode (am_by 35) q.1 = .ok (q.2.1, q.2.2.1)) && am_ok 35 q.1 q.2) = true := by decide +kernel
theorem am_u35_0 : ((am_r35.drop 0).all fun q => decide (decode (am_by 35) q.1 = .ok (q.2.1, q.2.2.1)) && am_ok 35 q.1 q.2) = true := am_alltd 24 am_t35_0 (by rw [List.drop_drop]; exact am_t35_1)
theorem am_t35 : (am_r35.all fun q => decide (decode (am_by 35) q.1 = .ok (q.2.1, q.2.2.1)) && am_ok 35 q.1 q.2) = true := am_u35_0
theorem am_t36 : (am_r36.all fun q => decide (decode (am_by 36) q.1 = .ok (q.2.1, q.2.2.1)) && am_ok 36 q.1 q.2) = true := by decide +kernel
theorem am_t37 : (am_r37.all fun q => decide (decode (am_by 37) q.1 = .ok (q.2.1, q.2.2.1)) && am_ok 37 q.1 q.2) = true := by decide +kernel
theorem am_t38 : (am_r38.all fun q => decide (decode (am_by 38) q.1 = .ok (q.2.1, q.2.2.1)) && am_ok 38 q.1 q.2) = true := by decide +kernel
theorem am_t39 : (am_r39.all fun q => decide (decode (am_by 39) q.1 = .ok (q.2.1, q.2.2.1)) && am_ok 39 q.1 q.2) = true := by decide +kernel
end
section
theorem am_t40 : (am_r40.all fun q => decide (decode (am_by 40) q.1 = .ok (q.2.1, q.2.2.1)) && am_ok 40 q.1 q.2) = true := by decide +kernel
theorem am_t41 : (am_r41.all fun q => decide (decode (am_by 41) q.1 = .ok (q.2.1, q.2.2.1)) && am_ok 41 q.1 q.2) = true := by decide +kernel
theorem am_t42 : (am_r42.all fun q => decide (decode (am_by 42) q.1 = .ok (q.2.1, q.2.2.1)) && am_ok 42 q.1 q.2) = true := by decide +kernel
theorem am_t43_0 : (((am_r43.drop 0).take 24).all fun q => decide (decode (am_by 43) q.1 = .ok (q.2.1, q.2.2.1)) && am_ok 43 q.1 q.2) = true := by decide +kernel
theorem am_t43_1 : ((am_r43.drop 24).all fun q => decide (decode (am_by 43) q.1 = .ok (q.2.1, q.2.2.1)) && am_ok 43 q.1 q.2) = true := by decide +kernel
theorem am_u43_0 : ((am_r43.drop 0).all fun q => decide (decode (am_by 43) q.1 = .ok (q.2.1, q.2.2.1)) && am_ok 43 q.1 q.2) = true := am_alltd 24 am_t43_0 (by rw [List.drop_drop]; exact am_t43_1)
theorem am_t43 : (am_r43.all fun q => decide (decode (am_by 43) q.1 = .ok (q.2.1, q.2.2.1)) && am_ok 43 q.1 q.2) = true := am_u43_0
theorem am_t44 : (am_r44.all fun q => decide (decode (am_by 44) q.1 = .ok (q.2.1, q.2.2.1)) && am_ok 44 q.1 q.2) = true := by decide +kernel
theorem am_t45 : (am_r45.all fun q => decide (decode (am_by 45) q.1 = .ok (q.2.1, q.2.2.1)) && am_ok 45 q.1 q.2) = true := by decide +kernel
theorem am_t46 : (am_r46.all fun q => decide (decode (am_by 46) q.1 = .ok (q.2.1, q.2.2.1)) && am_ok 46 q.1 q.2) = true := by decide +kernel
theorem am_t47 : (am_r47.all fun q => decide (decode (am_by 47) q.1 = .ok (q.2.1, q.2.2.1)) && am_ok 47 q.1 q.2) = true := by decide +kernel
theorem am_t48 : (am_r48.all fun q => decide (decode (am_by 48) q.1 = .ok (q.2.1, q.2.2.1)) && am_ok 48 q.1 q.2) = true := by decide +kernel
theorem am_t49 : (am_r49.all fun q => decide (decode (am_by 49) q.1 = .ok (q.2.1, q.2.2.1)) && am_ok 49 q.1 q.2) = true := by decide +kernel
theorem am_t50 : (am_r50.all fun q => decide (decode (am_by 50) q.1 = .ok (q.2.1, q.2.2.1)) && am_ok 50 q.1 q.2) = true := by decide +kernel
theorem am_t51_0 : (((am_r51.drop 0).take 24).all fun q => decide (decode (am_by 51) q.1 = .ok (q.2.1, q.2.2.1)) && am_ok 51 q.1 q.2) = true := by decide +kernel
theorem am_t51_1 : ((am_r51.drop 24).all fun q => decide (decode (am_by 51) q.1 = .ok (q.2.1, q.2.2.1)) && am_ok 51 q.1 q.2) = true := by decide +kernel
theorem am_u51_0 : ((am_r51.drop 0).all fun q => decide (decode (am_by 51) q.1 = .ok (q.2.1, q.2.2.1)) && am_ok 51 q.1 q.2) = true := am_alltd 24 am_t51_0 (by rw [List.drop_drop]; exact am_t51_1)
theorem am_t51 : (am_r51.all fun q => decide (decode (am_by 51) q.1 = .ok (q.2.1, q.2.2.1)) && am_ok 51 q.1 q.2) = true := am_u51_0
theorem am_t52_0 : (((am_r52.drop 0).take 24).all fun q => decide (decode (am_by 52) q.1 = .ok (q.2.1, q.2.2.1)) && am_ok 52 q.1 q.2) = true := by decide +kernel
theorem am_t52_1 : (((am_r52.drop 24).take 24).all fun q => decide (decode (am_by 52) q.1 = .ok (q.2.1, q.2.2.1)) && am_ok 52 q.1 q.2) = true := by decide +kernel
theorem am_t52_2 : (((am_r52.drop 48).take 24).all fun q => decide (decode (am_by 52) q.1 = .ok (q.2.1, q.2.2.1)) && am_ok 52 q.1 q.2) = true := by decide +kernel
theorem am_t52_3 : (((am_r52.drop 72).take 24).all fun q => decide (decode (am_by 52) q.1 = .ok (q.2.1, q.2.2.1)) && am_ok 52 q.1 q.2) = true := by decide +kernel
theorem am_t52_4 : ((am_r52.drop 96).all fun q => decide (decode (am_by 52) q.1 = .ok (q.2.1, q.2.2.1)) && am_ok 52 q.1 q.2) = true := by decide +kernel
theorem am_u52_3 : ((am_r52.drop 72).all fun q => decide (decode (am_by 52) q.1 = .ok (q.2.1, q.2.2.1)) && am_ok 52 q.1 q.2) = true := am_alltd 24 am_t52_3 (by rw [List.drop_drop]; exact am_t52_4)
theorem am_u52_2 : ((am_r52.drop 48).all fun q => decide (decode (am_by 52) q.1 = .ok (q.2.1, q.2.2.1)) && am_ok 52 q.1 q.2) = true := am_alltd 24 am_t52_2 (by rw [List.drop_drop]; exact am_u52_3)
theorem am_u52_1 : ((am_r52.drop 24).all fun q => decide (decode (am_by 52) q.1 = .ok (q.2.1, q.2.2.1)) && am_ok 52 q.1 q.2) = true := am_alltd 24 am_t52_1 (by rw [List.drop_drop]; exact am_u52_2)
theorem am_u52_0 : ((am_r52.drop 0).all fun q => decide (decode (am_by 52) q.1 = .ok (q.2.1, q.2.2.1)) && am_ok 52 q.1 q.2) = true := am_alltd 24 am_t52_0 (by rw [List.drop_drop]; exact am_u52_1)
theorem am_t52 : (am_r52.all fun q => decide (decode (am_by 52) q.1 = .ok (q.2.1, q.2.2.1)) && am_ok 52 q.1 q.2) = true := am_u52_0
theorem am_t53 : (am_r53.all fun q => decide (decode (am_by 53) q.1 = .ok (q.2.1, q.2.2.1)) && am_ok 53 q.1 q.2) = true := by decide +kernel
theorem am_t54 : (am_r54.all fun q => decide (decode (am_by 54) q.1 = .ok (q.2.1, q.2.2.1)) && am_ok 54 q.1 q.2) = true := by decide +kernel
theorem am_t55 : (am_r55.all fun q => decide (decode (am_by 55) q.1 = .ok (q.2.1, q.2.2.1)) && am_ok 55 q.1 q.2) = true := by decide +kernel
theorem am_t56_0 : (((am_r56.drop 0).take 24).all fun q => decide (decode (am_by 56) q.1 = .ok (q.2.1, q.2.2.1)) && am_ok 56 q.1 q.2) = true := by decide +kernel
theorem am_t56_1 : ((am_r56.drop 24).all fun q => decide (decode (am_by 56) q.1 = .ok (q.2.1, q.2.2.1)) && am_ok 56 q.1 q.2) = true := by decide +kernel
theorem am_u56_0 : ((am_r56.drop 0).all fun q => decide (decode (am_by 56) q.1 = .ok (q.2.1, q.2.2.1)) && am_ok 56 q.1 q.2) = true := am_alltd 24 am_t56_0 (by rw [List.drop_drop]; exact am_t56_1)
theorem am_t56 : (am_r56.all fun q => decide (decode (am_by 56) q.1 = .ok (q.2.1, q.2.2.1)) && am_ok 56 q.1 q.2) = true := am_u56_0
theorem am_t57_0 : (((am_r57.drop 0).take 24).all fun q => decide (decode (am_by 57) q.1 = .ok (q.2.1, q.2.2.1)) && am_ok 57 q.1 q.2) = true := by decide +kernel
theorem am_t57_1 : ((am_r57.drop 24).all fun q => decide (decode (am_by 57) q.1 = .ok (q.2.1, q.2.2.1)) && am_ok 57 q.1 q.2) = true := by decide +kernel
theorem am_u57_0 : ((am_r57.drop 0).all fun q => decide (decode (am_by 57) q.1 = .ok (q.2.1, q.2.2.1)) && am_ok 57 q.1 q.2) = true := am_alltd 24 am_t57_0 (by rw [List.drop_drop]; exact am_t57_1)
theorem am_t57 : (am_r57.all fun q => decide (decode (am_by 57) q.1 = .ok (q.2.1, q.2.2.1)) && am_ok 57 q.1 q.2) = true := am_u57_0
end
section
theorem am_t58_0 : (((am_r58.drop 0).take 24).all fun q => decide (decode (am_by 58) q.1 = .ok (q.2.1, q.2.2.1)) && am_ok 58 q.1 q.2) = true := by decide +kernel
theorem am_t58_1 : (((am_r58.drop 24).take 24).all fun q => decide (decode (am_by 58) q.1 = .ok (q.2.1, q.2.2.1)) && am_ok 58 q.1 q.2) = true := by decide +kernel
theorem am_t58_2 : (((am_r58.drop 48).take 24).all fun q => decide (decode (am_by 58) q.1 = .ok (q.2.1, q.2.2.1)) && am_ok 58 q.1 q.2) = true := by decide +kernel
theorem am_t58_3 : ((am_r58.drop 72).all fun q => decide (decode (am_by 58) q.1 = .ok (q.2.1, q.2.2.1)) && am_ok 58 q.1 q.2) = true := by decide +kernel
theorem am_u58_2 : ((am_r58.drop 48).all fun q => decide (decode (am_by 58) q.1 = .ok (q.2.1, q.2.2.1)) && am_ok 58 q.1 q.2) = true := am_alltd 24 am_t58_2 (by rw [List.drop_drop]; exact am_t58_3)
theorem am_u58_1 : ((am_r58.drop 24).all fun q => decide (decode (am_by 58) q.1 = .ok (q.2.1, q.2.2.1)) && am_ok 58 q.1 q.2) = true := am_alltd 24 am_t58_1 (by rw [List.drop_drop]; exact am_u58_2)
theorem am_u58_0 : ((am_r58.drop 0).all fun q => decide (decode (am_by 58) q.1 = .ok (q.2.1, q.2.2.1)) && am_ok 58 q.1 q.2) = true := am_alltd 24 am_t58_0 (by rw [List.drop_drop]; exact am_u58_1)
theorem am_t58 : (am_r58.all fun q => decide (decode (am_by 58) q.1 = .ok (q.2.1, q.2.2.1)) && am_ok 58 q.1 q.2) = true := am_u58_0
theorem am_t59 : (am_r59.all fun q => decide (decode (am_by 59) q.1 = .ok (q.2.1, q.2.2.1)) && am_ok 59 q.1 q.2) = true := by decide +kernel
theorem am_t60 : (am_r60.all fun q => decide (decode (am_by 60) q.1 = .ok (q.2.1, q.2.2.1)) && am_ok 60 q.1 q.2) = true := by decide +kernel
theorem am_t61_0 : (((am_r61.drop 0).take 24).all fun q => decide (decode (am_by 61) q.1 = .ok (q.2.1, q.2.2.1)) && am_ok 61 q.1 q.2) = true := by decide +kernel
theorem am_t61_1 : ((am_r61.drop 24).all fun q => decide (decode (am_by 61) q.1 = .ok (q.2.1, q.2.2.1)) && am_ok 61 q.1 q.2) = true := by decide +kernel
theorem am_u61_0 : ((am_r61.drop 0).all fun q => decide (decode (am_by 61) q.1 = .ok (q.2.1, q.2.2.1)) && am_ok 61 q.1 q.2) = true := am_alltd 24 am_t61_0 (by rw [List.drop_drop]; exact am_t61_1)
theorem am_t61 : (am_r61.all fun q => decide (decode (am_by 61) q.1 = .ok (q.2.1, q.2.2.1)) && am_ok 61 q.1 q.2) = true := am_u61_0
theorem am_t62 : (am_r62.all fun q => decide (decode (am_by 62) q.1 = .ok (q.2.1, q.2.2.1)) && am_ok 62 q.1 q.2) = true := by decide +kernel
theorem am_t63_0 : (((am_r63.drop 0).take 24).all fun q => decide (decode (am_by 63) q.1 = .ok (q.2.1, q.2.2.1)) && am_ok 63 q.1 q.2) = true := by decide +kernel
theorem am_t63_1 : (((am_r63.drop 24).take 24).all fun q => decide (decode (am_by 63) q.1 = .ok (q.2.1, q.2.2.1)) && am_ok 63 q.1 q.2) = true := by decide +kernel
theorem am_t63_2 : ((am_r63.drop 48).all fun q => decide (decode (am_by 63) q.1 = .ok (q.2.1, q.2.2.1)) && am_ok 63 q.1 q.2) = true := by decide +kernel
theorem am_u63_1 : ((am_r63.drop 24).all fun q => decide (decode (am_by 63) q.1 = .ok (q.2.1, q.2.2.1)) && am_ok 63 q.1 q.2) = true := am_alltd 24 am_t63_1 (by rw [List.drop_drop]; exact am_t63_2)
theorem am_u63_0 : ((am_r63.drop 0).all fun q => decide (decode (am_by 63) q.1 = .ok (q.2.1, q.2.2.1)) && am_ok 63 q.1 q.2) = true := am_alltd 24 am_t63_0 (by rw [List.drop_drop]; exact am_u63_1)
theorem am_t63 : (am_r63.all fun q => decide (decode (am_by 63) q.1 = .ok (q.2.1, q.2.2.1)) && am_ok 63 q.1 q.2) = true := am_u63_0
theorem am_t64 : (am_r64.all fun q => decide (decode (am_by 64) q.1 = .ok (q.2.1, q.2.2.1)) && am_ok 64 q.1 q.2) = true := by decide +kernel
theorem am_t65 : (am_r65.all fun q => decide (decode (am_by 65) q.1 = .ok (q.2.1, q.2.2.1)) && am_ok 65 q.1 q.2) = true := by decide +kernel
theorem am_t66_0 : (((am_r66.drop 0).take 24).all fun q => decide (decode (am_by 66) q.1 = .ok (q.2.1, q.2.2.1)) && am_ok 66 q.1 q.2) = true := by decide +kernel
theorem am_t66_1 : (((am_r66.drop 24).take 24).all fun q => decide (decode (am_by 66) q.1 = .ok (q.2.1, q.2.2.1)) && am_ok 66 q.1 q.2) = true := by decide +kernel
theorem am_t66_2 : ((am_r66.drop 48).all fun q => decide (decode (am_by 66) q.1 = .ok (q.2.1, q.2.2.1)) && am_ok 66 q.1 q.2) = true := by decide +kernel
theorem am_u66_1 : ((am_r66.drop 24).all fun q => decide (decode (am_by 66) q.1 = .ok (q.2.1, q.2.2.1)) && am_ok 66 q.1 q.2) = true := am_alltd 24 am_t66_1 (by rw [List.drop_drop]; exact am_t66_2)
theorem am_u66_0 : ((am_r66.drop 0).all fun q => decide (decode (am_by 66) q.1 = .ok (q.2.1, q.2.2.1)) && am_ok 66 q.1 q.2) = true := am_alltd 24 am_t66_0 (by rw [List.drop_drop]; exact am_u66_1)
theorem am_t66 : (am_r66.all fun q => decide (decode (am_by 66) q.1 = .ok (q.2.1, q.2.2.1)) && am_ok 66 q.1 q.2) = true := am_u66_0
theorem am_t67_0 : (((am_r67.drop 0).take 24).all fun q => decide (decode (am_by 67) q.1 = .ok (q.2.1, q.2.2.1)) && am_ok 67 q.1 q.2) = true := by decide +kernel
theorem am_t67_1 : (((am_r67.drop 24).take 24).all fun q => decide (decode (am_by 67) q.1 = .ok (q.2.1, q.2.2.1)) && am_ok 67 q.1 q.2) = true := by decide +kernel
theorem am_t67_2 : (((am_r67.drop 48).take 24).all fun q => decide (decode (am_by 67) q.1 = .ok (q.2.1, q.2.2.1)) && am_ok 67 q.1 q.2) = true := by decide +kernel
theorem am_t67_3 : (((am_r67.drop 72).take 24).all fun q => decide (decode (am_by 67) q.1 = .ok (q.2.1, q.2.2.1)) && am_ok 67 q.1 q.2) = true := by decide +kernel
theorem am_t67_4 : (((am_r67.drop 96).take 24).all fun q => decide (decode (am_by 67) q.1 = .ok (q.2.1, q.2.2.1)) && am_ok 67 q.1 q.2) = true := by decide +kernel
theorem am_t67_5 : (((am_r67.drop 120).take 24).all fun q => decide (decode (am_by 67) q.1 = .ok (q.2.1, q.2.2.1)) && am_ok 67 q.1 q.2) = true := by decide +kernel
theorem am_t67_6 : (((am_r67.drop 144).take 24).all fun q => decide (decode (am_by 67) q.1 = .ok (q.2.1, q.2.2.1)) && am_ok 67 q.1 q.2) = true := by decide +kernel
theorem am_t67_7 : ((am_r67.drop 168).all fun q => decide (decode (am_by 67) q.1 = .ok (q.2.1, q.2.2.1)) && am_ok 67 q.1 q.2) = true := by decide +kernel
theorem am_u67_6 : ((am_r67.drop 144).all fun q => decide (decode (am_by 67) q.1 = .ok (q.2.1, q.2.2.1)) && am_ok 67 q.1 q.2) = true := am_alltd 24 am_t67_6 (by rw [List.drop_drop]; exact am_t67_7)
theorem am_u67_5 : ((am_r67.drop 120).all fun q => decide (decode (am_by 67) q.1 = .ok (q.2.1, q.2.2.1)) && am_ok 67 q.1 q.2) = true := am_alltd 24 am_t67_5 (by rw [List.drop_drop]; exact am_u67_6)
theorem am_u67_4 : ((am_r67.drop 96).all fun q => decide (decode (am_by 67) q.1 = .ok (q.2.1, q.2.2.1)) && am_ok 67 q.1 q.2) = true := am_alltd 24 am_t67_4 (by rw [List.drop_drop]; exact am_u67_5)
theorem am_u67_3 : ((am_r67.drop 72).all fun q => decide (decode (am_by 67) q.1 = .ok (q.2.1, q.2.2.1)) && am_ok 67 q.1 q.2) = true := am_alltd 24 am_t67_3 (by rw [List.drop_drop]; exact am_u67_4)
theorem am_u67_2 : ((am_r67.drop 48).all fun q => decide (decode (am_by 67) q.1 = .ok (q.2.1, q.2.2.1)) && am_ok 67 q.1 q.2) = true := am_alltd 24 am_t67_2 (by rw [List.drop_drop]; exact am_u67_3)
theorem am_u67_1 : ((am_r67.drop 24).all fun q => decide (decode (am_by 67) q.1 = .ok (q.2.1, q.2.2.1)) && am_ok 67 q.1 q.2) = true := am_alltd 24 am_t67_1 (by rw [List.drop_drop]; exact am_u67_2)
theorem am_u67_0 : ((am_r67.drop 0).all fun q => decide (decode (am_by 67) q.1 = .ok (q.2.1, q.2.2.1)) && am_ok 67 q.1 q.2) = true := am_alltd 24 am_t67_0 (by rw [List.drop_drop]; exact am_u67_1)
theorem am_t67 : (am_r67.all fun q => decide (decode (am_by 67) q.1 = .ok (q.2.1, q.2.2.1)) && am_ok 67 q.1 q.2) = true := am_u67_0
theorem am_t68 : (am_r68.all fun q => decide (decode (am_by 68) q.1 = .ok (q.2.1, q.2.2.1)) && am_ok 68 q.1 q.2) = true := by decide +kernel
theorem am_t69 : (am_r69.all fun q => decide (decode (am_by 69) q.1 = .ok (q.2.1, q.2.2.1)) && am_ok 69 q.1 q.2) = true := by decide +kernel
end
section
theorem am_t70_0 : (((am_r70.drop 0).take 24).all fun q => decide (decode (am_by 70) q.1 = .ok (q.2.1, q.2.2.1)) && am_ok 70 q.1 q.2) = true := by decide +kernel
theorem am_t70_1 : (((am_r70.drop 24).take 24).all fun q => decide (decode (am_by 70) q.1 = .ok (q.2.1, q.2.2.1)) && am_ok 70 q.1 q.2) = true := by decide +kernel
theorem am_t70_2 : (((am_r70.drop 48).take 24).all fun q => decide (decode (am_by 70) q.1 = .ok (q.2.1, q.2.2.1)) && am_ok 70 q.1 q.2) = true := by decide +kernel
theorem am_t70_3 : (((am_r70.drop 72).take 24).all fun q => decide (decode (am_by 70) q.1 = .ok (q.2.1, q.2.2.1)) && am_ok 70 q.1 q.2) = true := by decide +kernel
theorem am_t70_4 : (((am_r70.drop 96).take 24).all fun q => decide (decode (am_by 70) q.1 = .ok (q.2.1, q.2.2.1)) && am_ok 70 q.1 q.2) = true := by decide +kernel
theorem am_t70_5 : ((am_r70.drop 120).all fun q => decide (decode (am_by 70) q.1 = .ok (q.2.1, q.2.2.1)) && am_ok 70 q.1 q.2) = true := by decide +kernel
theorem am_u70_4 : ((am_r70.drop 96).all fun q => decide (decode (am_by 70) q.1 = .ok (q.2.1, q.2.2.1)) && am_ok 70 q.1 q.2) = true := am_alltd 24 am_t70_4 (by rw [List.drop_drop]; exact am_t70_5)
theorem am_u70_3 : ((am_r70.drop 72).all fun q => decide (decode (am_by 70) q.1 = .ok (q.2.1, q.2.2.1)) && am_ok 70 q.1 q.2) = true := am_alltd 24 am_t70_3 (by rw [List.drop_drop]; exact am_u70_4)
theorem am_u70_2 : ((am_r70.drop 48).all fun q => decide (decode (am_by 70) q.1 = .ok (q.2.1, q.2.2.1)) && am_ok 70 q.1 q.2) = true := am_alltd 24 am_t70_2 (by rw [List.drop_drop]; exact am_u70_3)
theorem am_u70_1 : ((am_r70.drop 24).all fun q => decide (decode (am_by 70) q.1 = .ok (q.2.1, q.2.2.1)) && am_ok 70 q.1 q.2) = true := am_alltd 24 am_t70_1 (by rw [List.drop_drop]; exact am_u70_2)
theorem am_u70_0 : ((am_r70.drop 0).all fun q => decide (decode (am_by 70) q.1 = .ok (q.2.1, q.2.2.1)) && am_ok 70 q.1 q.2) = true := am_alltd 24 am_t70_0 (by rw [List.drop_drop]; exact am_u70_1)
theorem am_t70 : (am_r70.all fun q => decide (decode (am_by 70) q.1 = .ok (q.2.1, q.2.2.1)) && am_ok 70 q.1 q.2) = true := am_u70_0
theorem am_t71_0 : (((am_r71.drop 0).take 24).all fun q => decide (decode (am_by 71) q.1 = .ok (q.2.1, q.2.2.1)) && am_ok 71 q.1 q.2) = true := by decide +kernel
theorem am_t71_1 : ((am_r71.drop 24).all fun q => decide (decode (am_by 71) q.1 = .ok (q.2.1, q.2.2.1)) && am_ok 71 q.1 q.2) = true := by decide +kernel
theorem am_u71_0 : ((am_r71.drop 0).all fun q => decide (decode (am_by 71) q.1 = .ok (q.2.1, q.2.2.1)) && am_ok 71 q.1 q.2) = true := am_alltd 24 am_t71_0 (by rw [List.drop_drop]; exact am_t71_1)
theorem am_t71 : (am_r71.all fun q => decide (decode (am_by 71) q.1 = .ok (q.2.1, q.2.2.1)) && am_ok 71 q.1 q.2) = true := am_u71_0
theorem am_t72 : (am_r72.all fun q => decide (decode (am_by 72) q.1 = .ok (q.2.1, q.2.2.1)) && am_ok 72 q.1 q.2) = true := by decide +kernel
theorem am_t73_0 : (((am_r73.drop 0).take 24).all fun q => decide (decode (am_by 73) q.1 = .ok (q.2.1, q.2.2.1)) && am_ok 73 q.1 q.2) = true := by decide +kernel
theorem am_t73_1 : ((am_r73.drop 24).all fun q => decide (decode (am_by 73) q.1 = .ok (q.2.1, q.2.2.1)) && am_ok 73 q.1 q.2) = true := by decide +kernel
theorem am_u73_0 : ((am_r73.drop 0).all fun q => decide (decode (am_by 73) q.1 = .ok (q.2.1, q.2.2.1)) && am_ok 73 q.1 q.2) = true := am_alltd 24 am_t73_0 (by rw [List.drop_drop]; exact am_t73_1)
theorem am_t73 : (am_r73.all fun q => decide (decode (am_by 73) q.1 = .ok (q.2.1, q.2.2.1)) && am_ok 73 q.1 q.2) = true := am_u73_0
theorem am_t74_0 : (((am_r74.drop 0).take 24).all fun q => decide (decode (am_by 74) q.1 = .ok (q.2.1, q.2.2.1)) && am_ok 74 q.1 q.2) = true := by decide +kernel
theorem am_t74_1 : ((am_r74.drop 24).all fun q => decide (decode (am_by 74) q.1 = .ok (q.2.1, q.2.2.1)) && am_ok 74 q.1 q.2) = true := by decide +kernel
theorem am_u74_0 : ((am_r74.drop 0).all fun q => decide (decode (am_by 74) q.1 = .ok (q.2.1, q.2.2.1)) && am_ok 74 q.1 q.2) = true := am_alltd 24 am_t74_0 (by rw [List.drop_drop]; exact am_t74_1)
theorem am_t74 : (am_r74.all fun q => decide (decode (am_by 74) q.1 = .ok (q.2.1, q.2.2.1)) && am_ok 74 q.1 q.2) = true := am_u74_0
theorem am_t75_0 : (((am_r75.drop 0).take 24).all fun q => decide (decode (am_by 75) q.1 = .ok (q.2.1, q.2.2.1)) && am_ok 75 q.1 q.2) = true := by decide +kernel
theorem am_t75_1 : ((am_r75.drop 24).all fun q => decide (decode (am_by 75) q.1 = .ok (q.2.1, q.2.2.1)) && am_ok 75 q.1 q.2) = true := by decide +kernel
theorem am_u75_0 : ((am_r75.drop 0).all fun q => decide (decode (am_by 75) q.1 = .ok (q.2.1, q.2.2.1)) && am_ok 75 q.1 q.2) = true := am_alltd 24 am_t75_0 (by rw [List.drop_drop]; exact am_t75_1)
theorem am_t75 : (am_r75.all fun q => decide (decode (am_by 75) q.1 = .ok (q.2.1, q.2.2.1)) && am_ok 75 q.1 q.2) = true := am_u75_0
theorem am_t76_0 : (((am_r76.drop 0).take 24).all fun q => decide (decode (am_by 76) q.1 = .ok (q.2.1, q.2.2.1)) && am_ok 76 q.1 q.2) = true := by decide +kernel
theorem am_t76_1 : (((am_r76.drop 24).take 24).all fun q => decide (decode (am_by 76) q.1 = .ok (q.2.1, q.2.2.1)) && am_ok 76 q.1 q.2) = true := by decide +kernel
theorem am_t76_2 : (((am_r76.drop 48).take 24).all fun q => decide (decode (am_by 76) q.1 = .ok (q.2.1, q.2.2.1)) && am_ok 76 q.1 q.2) = true := by decide +kernel
theorem am_t76_3 : (((am_r76.drop 72).take 24).all fun q => decide (decode (am_by 76) q.1 = .ok (q.2.1, q.2.2.1)) && am_ok 76 q.1 q.2) = true := by decide +kernel
theorem am_t76_4 : (((am_r76.drop 96).take 24).all fun q => decide (decode (am_by 76) q.1 = .ok (q.2.1, q.2.2.1)) && am_ok 76 q.1 q.2) = true := by decide +kernel
theorem am_t76_5 : (((am_r76.drop 120).take 24).all fun q => decide (decode (am_by 76) q.1 = .ok (q.2.1, q.2.2.1)) && am_ok 76 q.1 q.2) = true := by decide +kernel
theorem am_t76_6 : ((am_r76.drop 144).all fun q => decide (decode (am_by 76) q.1 = .ok (q.2.1, q.2.2.1)) && am_ok 76 q.1 q.2) = true := by decide +kernel
theorem am_u76_5 : ((am_r76.drop 120).all fun q => decide (decode (am_by 76) q.1 = .ok (q.2.1, q.2.2.1)) && am_ok 76 q.1 q.2) = true := am_alltd 24 am_t76_5 (by rw [List.drop_drop]; exact am_t76_6)
theorem am_u76_4 : ((am_r76.drop 96).all fun q => decide (decode (am_by 76) q.1 = .ok (q.2.1, q.2.2.1)) && am_ok 76 q.1 q.2) = true := am_alltd 24 am_t76_4 (by rw [List.drop_drop]; exact am_u76_5)
theorem am_u76_3 : ((am_r76.drop 72).all fun q => decide (decode (am_by 76) q.1 = .ok (q.2.1, q.2.2.1)) && am_ok 76 q.1 q.2) = true := am_alltd 24 am_t76_3 (by rw [List.drop_drop]; exact am_u76_4)
theorem am_u76_2 : ((am_r76.drop 48).all fun q => decide (decode (am_by 76) q.1 = .ok (q.2.1, q.2.2.1)) && am_ok 76 q.1 q.2) = true := am_alltd 24 am_t76_2 (by rw [List.drop_drop]; exact am_u76_3)
theorem am_u76_1 : ((am_r76.drop 24).all fun q => decide (decode (am_by 76) q.1 = .ok (q.2.1, q.2.2.1)) && am_ok 76 q.1 q.2) = true := am_alltd 24 am_t76_1 (by rw [List.drop_drop]; exact am_u76_2)
theorem am_u76_0 : ((am_r76.drop 0).all fun q => decide (decode (am_by 76) q.1 = .ok (q.2.1, q.2.2.1)) && am_ok 76 q.1 q.2) = true := am_alltd 24 am_t76_0 (by rw [List.drop_drop]; exact am_u76_1)
theorem am_t76 : (am_r76.all fun q => decide (decode (am_by 76) q.1 = .ok (q.2.1, q.2.2.1)) && am_ok 76 q.1 q.2) = true := am_u76_0
theorem am_t77 : (am_r77.all fun q => decide (decode (am_by 77) q.1 = .ok (q.2.1, q.2.2.1)) && am_ok 77 q.1 q.2) = true := by decide +kernel
theorem am_t78_0 : (((am_r78.drop 0).take 24).all fun q => decide (decode (am_by 78) q.1 = .ok (q.2.1, q.2.2.1)) && am_ok 78 q.1 q.2) = true := by decide +kernel
theorem am_t78_1 : (((am_r78.drop 24).take 24).all fun q => decide (decode (am_by 78) q.1 = .ok (q.2.1, q.2.2.1)) && am_ok 78 q.1 q.2) = true := by decide +kernel
theorem am_t78_2 : (((am_r78.drop 48).take 24).all fun q => decide (decode (am_by 78) q.1 = .ok (q.2.1, q.2.2.1)) && am_ok 78 q.1 q.2) = true := by decide +kernel
theorem am_t78_3 : (((am_r78.drop 72).take 24).all fun q => decide (decode (am_by 78) q.1 = .ok (q.2.1, q.2.2.1)) && am_ok 78 q.1 q.2) = true := by decide +kernel
theorem am_t78_4 : (((am_r78.drop 96).take 24).all fun q => decide (decode (am_by 78) q.1 = .ok (q.2.1, q.2.2.1)) && am_ok 78 q.1 q.2) = true := by decide +kernel
theorem am_t78_5 : (((am_r78.drop 120).take 24).all fun q => decide (decode (am_by 78) q.1 = .ok (q.2.1, q.2.2.1)) && am_ok 78 q.1 q.2) = true := by decide +kernel
theorem am_t78_6 : (((am_r78.drop 144).take 24).all fun q => decide (decode (am_by 78) q.1 = .ok (q.2.1, q.2.2.1)) && am_ok 78 q.1 q.2) = true := by decide +kernel
theorem am_t78_7 : ((am_r78.drop 168).all fun q => decide (decode (am_by 78) q.1 = .ok (q.2.1, q.2.2.1)) && am_ok 78 q.1 q.2) = true := by decide +kernel
theorem am_u78_6 : ((am_r78.drop 144).all fun q => decide (decode (am_by 78) q.1 = .ok (q.2.1, q.2.2.1)) && am_ok 78 q.1 q.2) = true := am_alltd 24 am_t78_6 (by rw [List.drop_drop]; exact am_t78_7)
theorem am_u78_5 : ((am_r78.drop 120).all fun q => decide (decode (am_by 78) q.1 = .ok (q.2.1, q.2.2.1)) && am_ok 78 q.1 q.2) = true := am_alltd 24 am_t78_5 (by rw [List.drop_drop]; exact am_u78_6)
theorem am_u78_4 : ((am_r78.drop 96).all fun q => decide (decode (am_by 78) q.1 = .ok (q.2.1, q.2.2.1)) && am_ok 78 q.1 q.2) = true := am_alltd 24 am_t78_4 (by rw [List.drop_drop]; exact am_u78_5)
theorem am_u78_3 : ((am_r78.drop 72).all fun q => decide (decode (am_by 78) q.1 = .ok (q.2.1, q.2.2.1)) && am_ok 78 q.1 q.2) = true := am_alltd 24 am_t78_3 (by rw [List.drop_drop]; exact am_u78_4)
theorem am_u78_2 : ((am_r78.drop 48).all fun q => decide (decode (am_by 78) q.1 = .ok (q.2.1, q.2.2.1)) && am_ok 78 q.1 q.2) = true := am_alltd 24 am_t78_2 (by rw [List.drop_drop]; exact am_u78_3)
theorem am_u78_1 : ((am_r78.drop 24).all fun q => decide (decode (am_by 78) q.1 = .ok (q.2.1, q.2.2.1)) && am_ok 78 q.1 q.2) = true := am_alltd 24 am_t78_1 (by rw [List.drop_drop]; exact am_u78_2)
theorem am_u78_0 : ((am_r78.drop 0).all fun q => decide (decode (am_by 78) q.1 = .ok (q.2.1, q.2.2.1)) && am_ok 78 q.1 q.2) = true := am_alltd 24 am_t78_0 (by rw [List.drop_drop]; exact am_u78_1)
theorem am_t78 : (am_r78.all fun q => decide (decode (am_by 78) q.1 = .ok (q.2.1, q.2.2.1)) && am_ok 78 q.1 q.2) = true := am_u78_0
theorem am_t79_0 : (((am_r79.drop 0).take 24).all fun q => decide (decode (am_by 79) q.1 = .ok (q.2.1, q.2.2.1)) && am_ok 79 q.1 q.2) = true := by decide +kernel
theorem am_t79_1 : (((am_r79.drop 24).take 24).all fun q => decide (decode (am_by 79) q.1 = .ok (q.2.1, q.2.2.1)) && am_ok 79 q.1 q.2) = true := by decide +kernel
theorem am_t79_2 : (((am_r79.drop 48).take 24).all fun q => decide (decode (am_by 79) q.1 = .ok (q.2.1, q.2.2.1)) && am_ok 79 q.1 q.2) = true := by decide +kernel
theorem am_t79_3 : (((am_r79.drop 72).take 24).all fun q => decide (decode (am_by 79) q.1 = .ok (q.2.1, q.2.2.1)) && am_ok 79 q.1 q.2) = true := by decide +kernel
theorem am_t79_4 : (((am_r79.drop 96).take 24).all fun q => decide (decode (am_by 79) q.1 = .ok (q.2.1, q.2.2.1)) && am_ok 79 q.1 q.2) = true := by decide +kernel
theorem am_t79_5 : ((am_r79.drop 120).all fun q => decide (decode (am_by 79) q.1 = .ok (q.2.1, q.2.2.1)) && am_ok 79 q.1 q.2) = true := by decide +kernel
theorem am_u79_4 : ((am_r79.drop 96).all fun q => decide (decode (am_by 79) q.1 = .ok (q.2.1, q.2.2.1)) && am_ok 79 q.1 q.2) = true := am_alltd 24 am_t79_4 (by rw [List.drop_drop]; exact am_t79_5)
theorem am_u79_3 : ((am_r79.drop 72).all fun q => decide (decode (am_by 79) q.1 = .ok (q.2.1, q.2.2.1)) && am_ok 79 q.1 q.2) = true := am_alltd 24 am_t79_3 (by rw [List.drop_drop]; exact am_u79_4)
theorem am_u79_2 : ((am_r79.drop 48).all fun q => decide (decode (am_by 79) q.1 = .ok (q.2.1, q.2.2.1)) && am_ok 79 q.1 q.2) = true := am_alltd 24 am_t79_2 (by rw [List.drop_drop]; exact am_u79_3)
theorem am_u79_1 : ((am_r79.drop 24).all fun q => decide (decode (am_by 79) q.1 = .ok (q.2.1, q.2.2.1)) && am_ok 79 q.1 q.2) = true := am_alltd 24 am_t79_1 (by rw [List.drop_drop]; exact am_u79_2)
theorem am_u79_0 : ((am_r79.drop 0).all fun q => decide (decode (am_by 79) q.1 = .ok (q.2.1, q.2.2.1)) && am_ok 79 q.1 q.2) = true := am_alltd 24 am_t79_0 (by rw [List.drop_drop]; exact am_u79_1)
theorem am_t79 : (am_r79.all fun q => decide (decode (am_by 79) q.1 = .ok (q.2.1, q.2.2.1)) && am_ok 79 q.1 q.2) = true := am_u79_0
theorem am_t80_0 : (((am_r80.drop 0).take 24).all fun q => decide (decode (am_by 80) q.1 = .ok (q.2.1, q.2.2.1)) && am_ok 80 q.1 q.2) = true := by decide +kernel
theorem am_t80_1 : ((am_r80.drop 24).all fun q => decide (decode (am_by 80) q.1 = .ok (q.2.1, q.2.2.1)) && am_ok 80 q.1 q.2) = true := by decide +kernel
theorem am_u80_0 : ((am_r80.drop 0).all fun q => decide (decode (am_by 80) q.1 = .ok (q.2.1, q.2.2.1)) && am_ok 80 q.1 q.2) = true := am_alltd 24 am_t80_0 (by rw [List.drop_drop]; exact am_t80_1)
theorem am_t80 : (am_r80.all fun q => decide (decode (am_by 80) q.1 = .ok (q.2.1, q.2.2.1)) && am_ok 80 q.1 q.2) = true := am_u80_0
theorem am_t81_0 : (((am_r81.drop 0).take 24).all fun q => decide (decode (am_by 81) q.1 = .ok (q.2.1, q.2.2.1)) && am_ok 81 q.1 q.2) = true := by decide +kernel
theorem am_t81_1 : ((am_r81.drop 24).all fun q => decide (decode (am_by 81) q.1 = .ok (q.2.1, q.2.2.1)) && am_ok 81 q.1 q.2) = true := by decide +kernel
theorem am_u81_0 : ((am_r81.drop 0).all fun q => decide (decode (am_by 81) q.1 = .ok (q.2.1, q.2.2.1)) && am_ok 81 q.1 q.2) = true := am_alltd 24 am_t81_0 (by rw [List.drop_drop]; exact am_t81_1)
theorem am_t81 : (am_r81.all fun q => decide (decode (am_by 81) q.1 = .ok (q.2.1, q.2.2.1)) && am_ok 81 q.1 q.2) = true := am_u81_0
theorem am_t82_0 : (((am_r82.drop 0).take 24).all fun q => decide (decode (am_by 82) q.1 = .ok (q.2.1, q.2.2.1)) && am_ok 82 q.1 q.2) = true := by decide +kernel
theorem am_t82_1 : ((am_r82.drop 24).all fun q => decide (decode (am_by 82) q.1 = .ok (q.2.1, q.2.2.1)) && am_ok 82 q.1 q.2) = true := by decide +kernel
theorem am_u82_0 : ((am_r82.drop 0).all fun q => decide (decode (am_by 82) q.1 = .ok (q.2.1, q.2.2.1)) && am_ok 82 q.1 q.2) = true := am_alltd 24 am_t82_0 (by rw [List.drop_drop]; exact am_t82_1)
theorem am_t82 : (am_r82.all fun q => decide (decode (am_by 82) q.1 = .ok (q.2.1, q.2.2.1)) && am_ok 82 q.1 q.2) = true := am_u82_0
theorem am_t83_0 : (((am_r83.drop 0).take 24).all fun q => decide (decode (am_by 83) q.1 = .ok (q.2.1, q.2.2.1)) && am_ok 83 q.1 q.2) = true := by decide +kernel
theorem am_t83_1 : (((am_r83.drop 24).take 24).all fun q => decide (decode (am_by 83) q.1 = .ok (q.2.1, q.2.2.1)) && am_ok 83 q.1 q.2) = true := by decide +kernel
theorem am_t83_2 : (((am_r83.drop 48).take 24).all fun q => decide (decode (am_by 83) q.1 = .ok (q.2.1, q.2.2.1)) && am_ok 83 q.1 q.2) = true := by decide +kernel
theorem am_t83_3 : (((am_r83.drop 72).take 24).all fun q => decide (decode (am_by 83) q.1 = .ok (q.2.1, q.2.2.1)) && am_ok 83 q.1 q.2) = true := by decide +kernel
theorem am_t83_4 : ((am_r83.drop 96).all fun q => decide (decode (am_by 83) q.1 = .ok (q.2.1, q.2.2.1)) && am_ok 83 q.1 q.2) = true := by decide +kernel
theorem am_u83_3 : ((am_r83.drop 72).all fun q => decide (decode (am_by 83) q.1 = .ok (q.2.1, q.2.2.1)) && am_ok 83 q.1 q.2) = true := am_alltd 24 am_t83_3 (by rw [List.drop_drop]; exact am_t83_4)
theorem am_u83_2 : ((am_r83.drop 48).all fun q => decide (decode (am_by 83) q.1 = .ok (q.2.1, q.2.2.1)) && am_ok 83 q.1 q.2) = true := am_alltd 24 am_t83_2 (by rw [List.drop_drop]; exact am_u83_3)
theorem am_u83_1 : ((am_r83.drop 24).all fun q => decide (decode (am_by 83) q.1 = .ok (q.2.1, q.2.2.1)) && am_ok 83 q.1 q.2) = true := am_alltd 24 am_t83_1 (by rw [List.drop_drop]; exact am_u83_2)
theorem am_u83_0 : ((am_r83.drop 0).all fun q => decide (decode (am_by 83) q.1 = .ok (q.2.1, q.2.2.1)) && am_ok 83 q.1 q.2) = true := am_alltd 24 am_t83_0 (by rw [List.drop_drop]; exact am_u83_1)
theorem am_t83 : (am_r83.all fun q => decide (decode (am_by 83) q.1 = .ok (q.2.1, q.2.2.1)) && am_ok 83 q.1 q.2) = true := am_u83_0
end
section
theorem am_t84_0 : (((am_r84.drop 0).take 24).all fun q => decide (decode (am_by 84) q.1 = .ok (q.2.1, q.2.2.1)) && am_ok 84 q.1 q.2) = true := by decide +kernel
theorem am_t84_1 : (((am_r84.drop 24).take 24).all fun q => decide (decode (am_by 84) q.1 = .ok (q.2.1, q.2.2.1)) && am_ok 84 q.1 q.2) = true := by decide +kernel
theorem am_t84_2 : (((am_r84.drop 48).take 24).all fun q => decide (decode (am_by 84) q.1 = .ok (q.2.1, q.2.2.1)) && am_ok 84 q.1 q.2) = true := by decide +kernel
theorem am_t84_3 : (((am_r84.drop 72).take 24).all fun q => decide (decode (am_by 84) q.1 = .ok (q.2.1, q.2.2.1)) && am_ok 84 q.1 q.2) = true := by decide +kernel
theorem am_t84_4 : ((am_r84.drop 96).all fun q => decide (decode (am_by 84) q.1 = .ok (q.2.1, q.2.2.1)) && am_ok 84 q.1 q.2) = true := by decide +kernel
theorem am_u84_3 : ((am_r84.drop 72).all fun q => decide (decode (am_by 84) q.1 = .ok (q.2.1, q.2.2.1)) && am_ok 84 q.1 q.2) = true := am_alltd 24 am_t84_3 (by rw [List.drop_drop]; exact am_t84_4)
theorem am_u84_2 : ((am_r84.drop 48).all fun q => decide (decode (am_by 84) q.1 = .ok (q.2.1, q.2.2.1)) && am_ok 84 q.1 q.2) = true := am_alltd 24 am_t84_2 (by rw [List.drop_drop]; exact am_u84_3)
theorem am_u84_1 : ((am_r84.drop 24).all fun q => decide (decode (am_by 84) q.1 = .ok (q.2.1, q.2.2.1)) && am_ok 84 q.1 q.2) = true := am_alltd 24 am_t84_1 (by rw [List.drop_drop]; exact am_u84_2)
theorem am_u84_0 : ((am_r84.drop 0).all fun q => decide (decode (am_by 84) q.1 = .ok (q.2.1, q.2.2.1)) && am_ok 84 q.1 q.2) = true := am_alltd 24 am_t84_0 (by rw [List.drop_drop]; exact am_u84_1)
theorem am_t84 : (am_r84.all fun q => decide (decode (am_by 84) q.1 = .ok (q.2.1, q.2.2.1)) && am_ok 84 q.1 q.2) = true := am_u84_0
theorem am_t85 : (am_r85.all fun q => decide (decode (am_by 85) q.1 = .ok (q.2.1, q.2.2.1)) && am_ok 85 q.1 q.2) = true := by decide +kernel
theorem am_t86_0 : (((am_r86.drop 0).take 24).all fun q => decide (decode (am_by 86) q.1 = .ok (q.2.1, q.2.2.1)) && am_ok 86 q.1 q.2) = true := by decide +kernel
theorem am_t86_1 : ((am_r86.drop 24).all fun q => decide (decode (am_by 86) q.1 = .ok (q.2.1, q.2.2.1)) && am_ok 86 q.1 q.2) = true := by decide +kernel
theorem am_u86_0 : ((am_r86.drop 0).all fun q => decide (decode (am_by 86) q.1 = .ok (q.2.1, q.2.2.1)) && am_ok 86 q.1 q.2) = true := am_alltd 24 am_t86_0 (by rw [List.drop_drop]; exact am_t86_1)
theorem am_t86 : (am_r86.all fun q => decide (decode (am_by 86) q.1 = .ok (q.2.1, q.2.2.1)) && am_ok 86 q.1 q.2) = true := am_u86_0
theorem am_t87 : (am_r87.all fun q => decide (decode (am_by 87) q.1 = .ok (q.2.1, q.2.2.1)) && am_ok 87 q.1 q.2) = true := by decide +kernel
theorem am_t88_0 : (((am_r88.drop 0).take 24).all fun q => decide (decode (am_by 88) q.1 = .ok (q.2.1, q.2.2.1)) && am_ok 88 q.1 q.2) = true := by decide +kernel
theorem am_t88_1 : ((am_r88.drop 24).all fun q => decide (decode (am_by 88) q.1 = .ok (q.2.1, q.2.2.1)) && am_ok 88 q.1 q.2) = true := by decide +kernel
theorem am_u88_0 : ((am_r88.drop 0).all fun q => decide (decode (am_by 88) q.1 = .ok (q.2.1, q.2.2.1)) && am_ok 88 q.1 q.2) = true := am_alltd 24 am_t88_0 (by rw [List.drop_drop]; exact am_t88_1)
theorem am_t88 : (am_r88.all fun q => decide (decode (am_by 88) q.1 = .ok (q.2.1, q.2.2.1)) && am_ok 88 q.1 q.2) = true := am_u88_0
theorem am_t89_0 : (((am_r89.drop 0).take 24).all fun q => decide (decode (am_by 89) q.1 = .ok (q.2.1, q.2.2.1)) && am_ok 89 q.1 q.2) = true := by decide +kernel
theorem am_t89_1 : ((am_r89.drop 24).all fun q => decide (decode (am_by 89) q.1 = .ok (q.2.1, q.2.2.1)) && am_ok 89 q.1 q.2) = true := by decide +kernel
theorem am_u89_0 : ((am_r89.drop 0).all fun q => decide (decode (am_by 89) q.1 = .ok (q.2.1, q.2.2.1)) && am_ok 89 q.1 q.2) = true := am_alltd 24 am_t89_0 (by rw [List.drop_drop]; exact am_t89_1)
theorem am_t89 : (am_r89.all fun q => decide (decode (am_by 89) q.1 = .ok (q.2.1, q.2.2.1)) && am_ok 89 q.1 q.2) = true := am_u89_0
theorem am_t90_0 : (((am_r90.drop 0).take 24).all fun q => decide (decode (am_by 90) q.1 = .ok (q.2.1, q.2.2.1)) && am_ok 90 q.1 q.2) = true := by decide +kernel
theorem am_t90_1 : (((am_r90.drop 24).take 24).all fun q => decide (decode (am_by 90) q.1 = .ok (q.2.1, q.2.2.1)) && am_ok 90 q.1 q.2) = true := by decide +kernel
theorem am_t90_2 : (((am_r90.drop 48).take 24).all fun q => decide (decode (am_by 90) q.1 = .ok (q.2.1, q.2.2.1)) && am_ok 90 q.1 q.2) = true := by decide +kernel
theorem am_t90_3 : ((am_r90.drop 72).all fun q => decide (decode (am_by 90) q.1 = .ok (q.2.1, q.2.2.1)) && am_ok 90 q.1 q.2) = true := by decide +kernel
theorem am_u90_2 : ((am_r90.drop 48).all fun q => decide (decode (am_by 90) q.1 = .ok (q.2.1, q.2.2.1)) && am_ok 90 q.1 q.2) = true := am_alltd 24 am_t90_2 (by rw [List.drop_drop]; exact am_t90_3)
theorem am_u90_1 : ((am_r90.drop 24).all fun q => decide (decode (am_by 90) q.1 = .ok (q.2.1, q.2.2.1)) && am_ok 90 q.1 q.2) = true := am_alltd 24 am_t90_1 (by rw [List.drop_drop]; exact am_u90_2)
theorem am_u90_0 : ((am_r90.drop 0).all fun q => decide (decode (am_by 90) q.1 = .ok (q.2.1, q.2.2.1)) && am_ok 90 q.1 q.2) = true := am_alltd 24 am_t90_0 (by rw [List.drop_drop]; exact am_u90_1)
theorem am_t90 : (am_r90.all fun q => decide (decode (am_by 90) q.1 = .ok (q.2.1, q.2.2.1)) && am_ok 90 q.1 q.2) = true := am_u90_0
theorem am_t91_0 : (((am_r91.drop 0).take 24).all fun q => decide (decode (am_by 91) q.1 = .ok (q.2.1, q.2.2.1)) && am_ok 91 q.1 q.2) = true := by decide +kernel
theorem am_t91_1 : (((am_r91.drop 24).take 24).all fun q => decide (decode (am_by 91) q.1 = .ok (q.2.1, q.2.2.1)) && am_ok 91 q.1 q.2) = true := by decide +kernel
theorem am_t91_2 : (((am_r91.drop 48).take 24).all fun q => decide (decode (am_by 91) q.1 = .ok (q.2.1, q.2.2.1)) && am_ok 91 q.1 q.2) = true := by decide +kernel
theorem am_t91_3 : ((am_r91.drop 72).all fun q => decide (decode (am_by 91) q.1 = .ok (q.2.1, q.2.2.1)) && am_ok 91 q.1 q.2) = true := by decide +kernel
theorem am_u91_2 : ((am_r91.drop 48).all fun q => decide (decode (am_by 91) q.1 = .ok (q.2.1, q.2.2.1)) && am_ok 91 q.1 q.2) = true := am_alltd 24 am_t91_2 (by rw [List.drop_drop]; exact am_t91_3)
theorem am_u91_1 : ((am_r91.drop 24).all fun q => decide (decode (am_by 91) q.1 = .ok (q.2.1, q.2.2.1)) && am_ok 91 q.1 q.2) = true := am_alltd 24 am_t91_1 (by rw [List.drop_drop]; exact am_u91_2)
theorem am_u91_0 : ((am_r91.drop 0).all fun q => decide (decode (am_by 91) q.1 = .ok (q.2.1, q.2.2.1)) && am_ok 91 q.1 q.2) = true := am_alltd 24 am_t91_0 (by rw [List.drop_drop]; exact am_u91_1)
theorem am_t91 : (am_r91.all fun q => decide (decode (am_by 91) q.1 = .ok (q.2.1, q.2.2.1)) && am_ok 91 q.1 q.2) = true := am_u91_0
theorem am_t92 : (am_r92.all fun q => decide (decode (am_by 92) q.1 = .ok (q.2.1, q.2.2.1)) && am_ok 92 q.1 q.2) = true := by decide +kernel
theorem am_t93_0 : (((am_r93.drop 0).take 24).all fun q => decide (decode (am_by 93) q.1 = .ok (q.2.1, q.2.2.1)) && am_ok 93 q.1 q.2) = true := by decide +kernel
theorem am_t93_1 : ((am_r93.drop 24).all fun q => decide (decode (am_by 93) q.1 = .ok (q.2.1, q.2.2.1)) && am_ok 93 q.1 q.2) = true := by decide +kernel
theorem am_u93_0 : ((am_r93.drop 0).all fun q => decide (decode (am_by 93) q.1 = .ok (q.2.1, q.2.2.1)) && am_ok 93 q.1 q.2) = true := am_alltd 24 am_t93_0 (by rw [List.drop_drop]; exact am_t93_1)
theorem am_t93 : (am_r93.all fun q => decide (decode (am_by 93) q.1 = .ok (q.2.1, q.2.2.1)) && am_ok 93 q.1 q.2) = true := am_u93_0
theorem am_t94_0 : (((am_r94.drop 0).take 24).all fun q => decide (decode (am_by 94) q.1 = .ok (q.2.1, q.2.2.1)) && am_ok 94 q.1 q.2) = true := by decide +kernel
theorem am_t94_1 : ((am_r94.drop 24).all fun q => decide (decode (am_by 94) q.1 = .ok (q.2.1, q.2.2.1)) && am_ok 94 q.1 q.2) = true := by decide +kernel
theorem am_u94_0 : ((am_r94.drop 0).all fun q => decide (decode (am_by 94) q.1 = .ok (q.2.1, q.2.2.1)) && am_ok 94 q.1 q.2) = true := am_alltd 24 am_t94_0 (by rw [List.drop_drop]; exact am_t94_1)
theorem am_t94 : (am_r94.all fun q => decide (decode (am_by 94) q.1 = .ok (q.2.1, q.2.2.1)) && am_ok 94 q.1 q.2) = true := am_u94_0
theorem am_t95_0 : (((am_r95.drop 0).take 24).all fun q => decide (decode (am_by 95) q.1 = .ok (q.2.1, q.2.2.1)) && am_ok 95 q.1 q.2) = true := by decide +kernel
theorem am_t95_1 : ((am_r95.drop 24).all fun q => decide (decode (am_by 95) q.1 = .ok (q.2.1, q.2.2.1)) && am_ok 95 q.1 q.2) = true := by decide +kernel
theorem am_u95_0 : ((am_r95.drop 0).all fun q => decide (decode (am_by 95) q.1 = .ok (q.2.1, q.2.2.1)) && am_ok 95 q.1 q.2) = true := am_alltd 24 am_t95_0 (by rw [List.drop_drop]; exact am_t95_1)
theorem am_t95 : (am_r95.all fun q => decide (decode (am_by 95) q.1 = .ok (q.2.1, q.2.2.1)) && am_ok 95 q.1 q.2) = true := am_u95_0
theorem am_t96_0 : (((am_r96.drop 0).take 24).all fun q => decide (decode (am_by 96) q.1 = .ok (q.2.1, q.2.2.1)) && am_ok 96 q.1 q.2) = true := by decide +kernel
theorem am_t96_1 : (((am_r96.drop 24).take 24).all fun q => decide (decode (am_by 96) q.1 = .ok (q.2.1, q.2.2.1)) && am_ok 96 q.1 q.2) = true := by decide +kernel
theorem am_t96_2 : (((am_r96.drop 48).take 24).all fun q => decide (decode (am_by 96) q.1 = .ok (q.2.1, q.2.2.1)) && am_ok 96 q.1 q.2) = true := by decide +kernel
theorem am_t96_3 : (((am_r96.drop 72).take 24).all fun q => decide (decode (am_by 96) q.1 = .ok (q.2.1, q.2.2.1)) && am_ok 96 q.1 q.2) = true := by decide +kernel
theorem am_t96_4 : (((am_r96.drop 96).take 24).all fun q => decide (decode (am_by 96) q.1 = .ok (q.2.1, q.2.2.1)) && am_ok 96 q.1 q.2) = true := by decide +kernel
theorem am_t96_5 : (((am_r96.drop 120).take 24).all fun q => decide (decode (am_by 96) q.1 = .ok (q.2.1, q.2.2.1)) && am_ok 96 q.1 q.2) = true := by decide +kernel
theorem am_t96_6 : (((am_r96.drop 144).take 24).all fun q => decide (decode (am_by 96) q.1 = .ok (q.2.1, q.2.2.1)) && am_ok 96 q.1 q.2) = true := by decide +kernel
theorem am_t96_7 : ((am_r96.drop 168).all fun q => decide (decode (am_by 96) q.1 = .ok (q.2.1, q.2.2.1)) && am_ok 96 q.1 q.2) = true := by decide +kernel
theorem am_u96_6 : ((am_r96.drop 144).all fun q => decide (decode (am_by 96) q.1 = .ok (q.2.1, q.2.2.1)) && am_ok 96 q.1 q.2) = true := am_alltd 24 am_t96_6 (by rw [List.drop_drop]; exact am_t96_7)
theorem am_u96_5 : ((am_r96.drop 120).all fun q => decide (decode (am_by 96) q.1 = .ok (q.2.1, q.2.2.1)) && am_ok 96 q.1 q.2) = true := am_alltd 24 am_t96_5 (by rw [List.drop_drop]; exact am_u96_6)
theorem am_u96_4 : ((am_r96.drop 96).all fun q => decide (decode (am_by 96) q.1 = .ok (q.2.1, q.2.2.1)) && am_ok 96 q.1 q.2) = true := am_alltd 24 am_t96_4 (by rw [List.drop_drop]; exact am_u96_5)
theorem am_u96_3 : ((am_r96.drop 72).all fun q => decide (decode (am_by 96) q.1 = .ok (q.2.1, q.2.2.1)) && am_ok 96 q.1 q.2) = true := am_alltd 24 am_t96_3 (by rw [List.drop_drop]; exact am_u96_4)
theorem am_u96_2 : ((am_r96.drop 48).all fun q => decide (decode (am_by 96) q.1 = .ok (q.2.1, q.2.2.1)) && am_ok 96 q.1 q.2) = true := am_alltd 24 am_t96_2 (by rw [List.drop_drop]; exact am_u96_3)
theorem am_u96_1 : ((am_r96.drop 24).all fun q => decide (decode (am_by 96) q.1 = .ok (q.2.1, q.2.2.1)) && am_ok 96 q.1 q.2) = true := am_alltd 24 am_t96_1 (by rw [List.drop_drop]; exact am_u96_2)
theorem am_u96_0 : ((am_r96.drop 0).all fun q => decide (decode (am_by 96) q.1 = .ok (q.2.1, q.2.2.1)) && am_ok 96 q.1 q.2) = true := am_alltd 24 am_t96_0 (by rw [List.drop_drop]; exact am_u96_1)
theorem am_t96 : (am_r96.all fun q => decide (decode (am_by 96) q.1 = .ok (q.2.1, q.2.2.1)) && am_ok 96 q.1 q.2) = true := am_u96_0
theorem am_t97 : (am_r97.all fun q => decide (decode (am_by 97) q.1 = .ok (q.2.1, q.2.2.1)) && am_ok 97 q.1 q.2) = true := by decide +kernel
theorem am_t98_0 : (((am_r98.drop 0).take 24).all fun q => decide (decode (am_by 98) q.1 = .ok (q.2.1, q.2.2.1)) && am_ok 98 q.1 q.2) = true := by decide +kernel
theorem am_t98_1 : (((am_r98.drop 24).take 24).all fun q => decide (decode (am_by 98) q.1 = .ok (q.2.1, q.2.2.1)) && am_ok 98 q.1 q.2) = true := by decide +kernel
theorem am_t98_2 : ((am_r98.drop 48).all fun q => decide (decode (am_by 98) q.1 = .ok (q.2.1, q.2.2.1)) && am_ok 98 q.1 q.2) = true := by decide +kernel
theorem am_u98_1 : ((am_r98.drop 24).all fun q => decide (decode (am_by 98) q.1 = .ok (q.2.1, q.2.2.1)) && am_ok 98 q.1 q.2) = true := am_alltd 24 am_t98_1 (by rw [List.drop_drop]; exact am_t98_2)
theorem am_u98_0 : ((am_r98.drop 0).all fun q => decide (decode (am_by 98) q.1 = .ok (q.2.1, q.2.2.1)) && am_ok 98 q.1 q.2) = true := am_alltd 24 am_t98_0 (by rw [List.drop_drop]; exact am_u98_1)
theorem am_t98 : (am_r98.all fun q => decide (decode (am_by 98) q.1 = .ok (q.2.1, q.2.2.1)) && am_ok 98 q.1 q.2) = true := am_u98_0
theorem am_t99 : (am_r99.all fun q => decide (decode (am_by 99) q.1 = .ok (q.2.1, q.2.2.1)) && am_ok 99 q.1 q.2) = true := by decide +kernel
theorem am_t100 : (am_r100.all fun q => decide (decode (am_by 100) q.1 = .ok (q.2.1, q.2.2.1)) && am_ok 100 q.1 q.2) = true := by decide +kernel
theorem am_t101 : (am_r101.all fun q => decide (decode (am_by 101) q.1 = .ok (q.2.1, q.2.2.1)) && am_ok 101 q.1 q.2) = true := by decide +kernel
theorem am_t102 : (am_r102.all fun q => decide (decode (am_by 102) q.1 = .ok (q.2.1, q.2.2.1)) && am_ok 102 q.1 q.2) = true := by decide +kernel
theorem am_t103 : (am_r103.all fun q => decide (decode (am_by 103) q.1 = .ok (q.2.1, q.2.2.1)) && am_ok 103 q.1 q.2) = true := by decide +kernel
theorem am_t104 : (am_r104.all fun q => decide (decode (am_by 104) q.1 = .ok (q.2.1, q.2.2.1)) && am_ok 104 q.1 q.2) = true := by decide +kernel
end
section
theorem am_t0_0 : (((am_r0.drop 0).take 24).all fun q => decide (decode (am_by 0) q.1 = .ok (q.2.1, q.2.2.1)) && am_ok 0 q.1 q.2) = true := by decide +kernel
theorem am_t0_1 : (((am_r0.drop 24).take 24).all fun q => decide (decode (am_by 0) q.1 = .ok (q.2.1, q.2.2.1)) && am_ok 0 q.1 q.2) = true := by decide +kernel
theorem am_t0_2 : (((am_r0.drop 48).take 24).all fun q => decide (decode (am_by 0) q.1 = .ok (q.2.1, q.2.2.1)) && am_ok 0 q.1 q.2) = true := by decide +kernel
theorem am_t0_3 : (((am_r0.drop 72).take 24).all fun q => decide (decode (am_by 0) q.1 = .ok (q.2.1, q.2.2.1)) && am_ok 0 q.1 q.2) = true := by decide +kernel
theorem am_t0_4 : (((am_r0.drop 96).take 24).all fun q => decide (decode (am_by 0) q.1 = .ok (q.2.1, q.2.2.1)) && am_ok 0 q.1 q.2) = true := by decide +kernel
theorem am_t0_5 : (((am_r0.drop 120).take 24).all fun q => decide (decode (am_by 0) q.1 = .ok (q.2.1, q.2.2.1)) && am_ok 0 q.1 q.2) = true := by decide +kernel
theorem am_t0_6 : (((am_r0.drop 144).take 24).all fun q => decide (decode (am_by 0) q.1 = .ok (q.2.1, q.2.2.1)) && am_ok 0 q.1 q.2) = true := by decide +kernel
theorem am_t0_7 : (((am_r0.drop 168).take 24).all fun q => decide (decode (am_by 0) q.1 = .ok (q.2.1, q.2.2.1)) && am_ok 0 q.1 q.2) = true := by decide +kernel
theorem am_t0_8 : (((am_r0.drop 192).take 24).all fun q => decide (decode (am_by 0) q.1 = .ok (q.2.1, q.2.2.1)) && am_ok 0 q.1 q.2) = true := by decide +kernel
theorem am_t0_9 : (((am_r0.drop 216).take 24).all fun q => decide (decode (am_by 0) q.1 = .ok (q.2.1, q.2.2.1)) && am_ok 0 q.1 q.2) = true := by decide +kernel
theorem am_t0_10 : (((am_r0.drop 240).take 24).all fun q => decide (decode (am_by 0) q.1 = .ok (q.2.1, q.2.2.1)) && am_ok 0 q.1 q.2) = true := by decide +kernel
theorem am_t0_11 : (((am_r0.drop 264).take 24).all fun q => decide (decode (am_by 0) q.1 = .ok (q.2.1, q.2.2.1)) && am_ok 0 q.1 q.2) = true := by decide +kernel
theorem am_t0_12 : (((am_r0.drop 288).take 24).all fun q => decide (decode (am_by 0) q.1 = .ok (q.2.1, q.2.2.1)) && am_ok 0 q.1 q.2) = true := by decide +kernel
theorem am_t0_13 : (((am_r0.drop 312).take 24).all fun q => decide (decode (am_by 0) q.1 = .ok (q.2.1, q.2.2.1)) && am_ok 0 q.1 q.2) = true := by decide +kernel
theorem am_t0_14 : (((am_r0.drop 336).take 24).all fun q => decide (decode (am_by 0) q.1 = .ok (q.2.1, q.2.2.1)) && am_ok 0 q.1 q.2) = true := by decide +kernel
theorem am_t0_15 : ((am_r0.drop 360).all fun q => decide (decode (am_by 0) q.1 = .ok (q.2.1, q.2.2.1)) && am_ok 0 q.1 q.2) = true := by decide +kernel
theorem am_u0_14 : ((am_r0.drop 336).all fun q => decide (decode (am_by 0) q.1 = .ok (q.2.1, q.2.2.1)) && am_ok 0 q.1 q.2) = true := am_alltd 24 am_t0_14 (by rw [List.drop_drop]; exact am_t0_15)
theorem am_u0_13 : ((am_r0.drop 312).all fun q => decide (decode (am_by 0) q.1 = .ok (q.2.1, q.2.2.1)) && am_ok 0 q.1 q.2) = true := am_alltd 24 am_t0_13 (by rw [List.drop_drop]; exact am_u0_14)
theorem am_u0_12 : ((am_r0.drop 288).all fun q => decide (decode (am_by 0) q.1 = .ok (q.2.1, q.2.2.1)) && am_ok 0 q.1 q.2) = true := am_alltd 24 am_t0_12 (by rw [List.drop_drop]; exact am_u0_13)
theorem am_u0_11 : ((am_r0.drop 264).all fun q => decide (decode (am_by 0) q.1 = .ok (q.2.1, q.2.2.1)) && am_ok 0 q.1 q.2) = true := am_alltd 24 am_t0_11 (by rw [List.drop_drop]; exact am_u0_12)
theorem am_u0_10 : ((am_r0.drop 240).all fun q => decide (decode (am_by 0) q.1 = .ok (q.2.1, q.2.2.1)) && am_ok 0 q.1 q.2) = true := am_alltd 24 am_t0_10 (by rw [List.drop_drop]; exact am_u0_11)
theorem am_u0_9 : ((am_r0.drop 216).all fun q => decide (decode (am_by 0) q.1 = .ok (q.2.1, q.2.2.1)) && am_ok 0 q.1 q.2) = true := am_alltd 24 am_t0_9 (by rw [List.drop_drop]; exact am_u0_10)
theorem am_u0_8 : ((am_r0.drop 192).all fun q => decide (decode (am_by 0) q.1 = .ok (q.2.1, q.2.2.1)) && am_ok 0 q.1 q.2) = true := am_alltd 24 am_t0_8 (by rw [List.drop_drop]; exact am_u0_9)
theorem am_u0_7 : ((am_r0.drop 168).all fun q => decide (decode (am_by 0) q.1 = .ok (q.2.1, q.2.2.1)) && am_ok 0 q.1 q.2) = true := am_alltd 24 am_t0_7 (by rw [List.drop_drop]; exact am_u0_8)
theorem am_u0_6 : ((am_r0.drop 144).all fun q => decide (decode (am_by 0) q.1 = .ok (q.2.1, q.2.2.1)) && am_ok 0 q.1 q.2) = true := am_alltd 24 am_t0_6 (by rw [List.drop_drop]; exact am_u0_7)
theorem am_u0_5 : ((am_r0.drop 120).all fun q => decide (decode (am_by 0) q.1 = .ok (q.2.1, q.2.2.1)) && am_ok 0 q.1 q.2) = true := am_alltd 24 am_t0_5 (by rw [List.drop_drop]; exact am_u0_6)
theorem am_u0_4 : ((am_r0.drop 96).all fun q => decide (decode (am_by 0) q.1 = .ok (q.2.1, q.2.2.1)) && am_ok 0 q.1 q.2) = true := am_alltd 24 am_t0_4 (by rw [List.drop_drop]; exact am_u0_5)
theorem am_u0_3 : ((am_r0.drop 72).all fun q => decide (decode (am_by 0) q.1 = .ok (q.2.1, q.2.2.1)) && am_ok 0 q.1 q.2) = true := am_alltd 24 am_t0_3 (by rw [List.drop_drop]; exact am_u0_4)
theorem am_u0_2 : ((am_r0.drop 48).all fun q => decide (decode (am_by 0) q.1 = .ok (q.2.1, q.2.2.1)) && am_ok 0 q.1 q.2) = true := am_alltd 24 am_t0_2 (by rw [List.drop_drop]; exact am_u0_3)
theorem am_u0_1 : ((am_r0.drop 24).all fun q => decide (decode (am_by 0) q.1 = .ok (q.2.1, q.2.2.1)) && am_ok 0 q.1 q.2) = true := am_alltd 24 am_t0_1 (by rw [List.drop_drop]; exact am_u0_2)
theorem am_u0_0 : ((am_r0.drop 0).all fun q => decide (decode (am_by 0) q.1 = .ok (q.2.1, q.2.2.1)) && am_ok 0 q.1 q.2) = true := am_alltd 24 am_t0_0 (by rw [List.drop_drop]; exact am_u0_1)
theorem am_t0 : (am_r0.all fun q => decide (decode (am_by 0) q.1 = .ok (q.2.1, q.2.2.1)) && am_ok 0 q.1 q.2) = true := am_u0_0
end
section
theorem am_find_mem : ∀ {l : List (Nat × am_R)} {pc : Nat} {r : am_R}, am_find l pc = some r → (pc, r) ∈ l
  | [], _, _, h => by cases h
  | q :: l, pc, r, h => by
    unfold am_find at h
    split at h
    · rename_i hb
      cases h
      have e : q.1 = pc := Nat.eq_of_beq_eq_true hb
      rw [← e]
      exact List.mem_cons_self
    · exact List.mem_cons_of_mem _ (am_find_mem h)
def am_good1 (y : Nat) : Prop := ((am_code y).all fun q => decide (decode (am_by y) q.1 = .ok (q.2.1, q.2.2.1)) && am_ok y q.1 q.2) = true
theorem am_split {P : Nat → Prop} {a b : Nat} (c : Nat) (h1 : ∀ y, a ≤ y → y < c → P y) (h2 : ∀ y, c ≤ y → y < b → P y) : ∀ y, a ≤ y → y < b → P y := fun y h h' => if q : y < c then h1 y h q else h2 y (Nat.le_of_not_lt q) h'
theorem am_sone {P : Nat → Prop} {a : Nat} (h : P a) : ∀ y, a ≤ y → y < a + 1 → P y := fun y h1 h2 => by
  have e : y = a := by omega
  subst e
  exact h
theorem am_allg : ∀ y, 0 ≤ y → y < 105 → am_good1 y := (am_split 52 (am_split 26 (am_split 13 (am_split 6 (am_split 3 (am_split 1 (am_sone (a := 0) am_t0) (am_split 2 (am_sone (a := 1) am_t1) (am_sone (a := 2) am_t2))) (am_split 4 (am_sone (a := 3) am_t3) (am_split 5 (am_sone (a := 4) am_t4) (am_sone (a := 5) am_t5)))) (am_split 9 (am_split 7 (am_sone (a := 6) am_t6) (am_split 8 (am_sone (a := 7) am_t7) (am_sone (a := 8) am_t8))) (am_split 11 (am_split 10 (am_sone (a := 9) am_t9) (am_sone (a := 10) am_t10)) (am_split 12 (am_sone (a := 11) am_t11) (am_sone (a := 12) am_t12))))) (am_split 19 (am_split 16 (am_split 14 (am_sone (a := 13) am_t13) (am_split 15 (am_sone (a := 14) am_t14) (am_sone (a := 15) am_t15))) (am_split 17 (am_sone (a := 16) am_t16) (am_split 18 (am_sone (a := 17) am_t17) (am_sone (a := 18) am_t18)))) (am_split 22 (am_split 20 (am_sone (a := 19) am_t19) (am_split 21 (am_sone (a := 20) am_t20) (am_sone (a := 21) am_t21))) (am_split 24 (am_split 23 (am_sone (a := 22) am_t22) (am_sone (a := 23) am_t23)) (am_split 25 (am_sone (a := 24) am_t24) (am_sone (a := 25) am_t25)))))) (am_split 39 (am_split 32 (am_split 29 (am_split 27 (am_sone (a := 26) am_t26) (am_split 28 (am_sone (a := 27) am_t27) (am_sone (a := 28) am_t28))) (am_split 30 (am_sone (a := 29) am_t29) (am_split 31 (am_sone (a := 30) am_t30) (am_sone (a := 31) am_t31)))) (am_split 35 (am_split 33 (am_sone (a := 32) am_t32) (am_split 34 (am_sone (a := 33) am_t33) (am_sone (a := 34) am_t34))) (am_split 37 (am_split 36 (am_sone (a := 35) am_t35) (am_sone (a := 36) am_t36)) (am_split 38 (am_sone (a := 37) am_t37) (am_sone (a := 38) am_t38))))) (am_split 45 (am_split 42 (am_split 40 (am_sone (a := 39) am_t39) (am_split 41 (am_sone (a := 40) am_t40) (am_sone (a := 41) am_t41))) (am_split 43 (am_sone (a := 42) am_t42) (am_split 44 (am_sone (a := 43) am_t43) (am_sone (a := 44) am_t44)))) (am_split 48 (am_split 46 (am_sone (a := 45) am_t45) (am_split 47 (am_sone (a := 46) am_t46) (am_sone (a := 47) am_t47))) (am_split 50 (am_split 49 (am_sone (a := 48) am_t48) (am_sone (a := 49) am_t49)) (am_split 51 (am_sone (a := 50) am_t50) (am_sone (a := 51) am_t51))))))) (am_split 78 (am_split 65 (am_split 58 (am_split 55 (am_split 53 (am_sone (a := 52) am_t52) (am_split 54 (am_sone (a := 53) am_t53) (am_sone (a := 54) am_t54))) (am_split 56 (am_sone (a := 55) am_t55) (am_split 57 (am_sone (a := 56) am_t56) (am_sone (a := 57) am_t57)))) (am_split 61 (am_split 59 (am_sone (a := 58) am_t58) (am_split 60 (am_sone (a := 59) am_t59) (am_sone (a := 60) am_t60))) (am_split 63 (am_split 62 (am_sone (a := 61) am_t61) (am_sone (a := 62) am_t62)) (am_split 64 (am_sone (a := 63) am_t63) (am_sone (a := 64) am_t64))))) (am_split 71 (am_split 68 (am_split 66 (am_sone (a := 65) am_t65) (am_split 67 (am_sone (a := 66) am_t66) (am_sone (a := 67) am_t67))) (am_split 69 (am_sone (a := 68) am_t68) (am_split 70 (am_sone (a := 69) am_t69) (am_sone (a := 70) am_t70)))) (am_split 74 (am_split 72 (am_sone (a := 71) am_t71) (am_split 73 (am_sone (a := 72) am_t72) (am_sone (a := 73) am_t73))) (am_split 76 (am_split 75 (am_sone (a := 74) am_t74) (am_sone (a := 75) am_t75)) (am_split 77 (am_sone (a := 76) am_t76) (am_sone (a := 77) am_t77)))))) (am_split 91 (am_split 84 (am_split 81 (am_split 79 (am_sone (a := 78) am_t78) (am_split 80 (am_sone (a := 79) am_t79) (am_sone (a := 80) am_t80))) (am_split 82 (am_sone (a := 81) am_t81) (am_split 83 (am_sone (a := 82) am_t82) (am_sone (a := 83) am_t83)))) (am_split 87 (am_split 85 (am_sone (a := 84) am_t84) (am_split 86 (am_sone (a := 85) am_t85) (am_sone (a := 86) am_t86))) (am_split 89 (am_split 88 (am_sone (a := 87) am_t87) (am_sone (a := 88) am_t88)) (am_split 90 (am_sone (a := 89) am_t89) (am_sone (a := 90) am_t90))))) (am_split 98 (am_split 94 (am_split 92 (am_sone (a := 91) am_t91) (am_split 93 (am_sone (a := 92) am_t92) (am_sone (a := 93) am_t93))) (am_split 96 (am_split 95 (am_sone (a := 94) am_t94) (am_sone (a := 95) am_t95)) (am_split 97 (am_sone (a := 96) am_t96) (am_sone (a := 97) am_t97)))) (am_split 101 (am_split 99 (am_sone (a := 98) am_t98) (am_split 100 (am_sone (a := 99) am_t99) (am_sone (a := 100) am_t100))) (am_split 103 (am_split 102 (am_sone (a := 101) am_t101) (am_sone (a := 102) am_t102)) (am_split 104 (am_sone (a := 103) am_t103) (am_sone (a := 104) am_t104))))))))
theorem am_rows {y pc : Nat} {r : am_R} (h : am_find (am_code y) pc = some r) : decode (am_by y) pc = .ok (r.1, r.2.1) ∧ am_ok y pc r = true := by
  have hm := am_find_mem h
  have hy : y < 105 := by
    refine Nat.lt_of_not_le (fun q => ?_)
    have e : am_code y = [] := by
      unfold am_code
      rw [List.getD_eq_getElem?_getD, List.getElem?_eq_none (show am_tab.length ≤ y from q)]
      rfl
    rw [e] at hm
    cases hm
  have h1 := List.all_eq_true.mp (am_allg y (Nat.zero_le _) hy) _ hm
  rw [Bool.and_eq_true] at h1
  exact ⟨of_decide_eq_true h1.1, h1.2⟩
end
section
theorem am_ty5 {t : Nat} (h : t < 5) : ∃ ty, am_tyl[t]? = some ty := by
  have h2 : t < am_tyl.length := h
  exact ⟨am_tyl[t], List.getElem?_eq_getElem h2⟩
set_option maxHeartbeats 4000000 in
theorem am_hpW {g : Nat × Nat} {D : va_G} {tys : List (ClassId × FieldType)} {d y pc : Nat} {r : am_R} {L : am_L} {st : List Value} {σ : am_H} {K : am_F → am_H → Prop} (hd : decode (am_by y) pc = .ok (r.1, r.2.1)) (hok : am_ok y pc r = true) (h : am_hp g r (pc, L, st) σ K) : ∃ pc' st' σ', K (pc', L, st') σ' ∧ σ.2.1 ≤ σ'.2.1 ∧ σ.2.2 ≤ σ'.2.2 ∧ am_gh g D tys d y pc st σ pc' st' σ' := by
  obtain ⟨i, len, v0, a0, b0⟩ := r
  dsimp only at hd
  cases i with
  | getfield n =>
    simp only [am_ok, Bool.and_eq_true, beq_iff_eq, decide_eq_true_eq] at hok
    obtain ⟨rfl, hok, hci⟩ := hok
    obtain ⟨a, st', fs, v, rfl, h2, h3, h4⟩ := h
    exact ⟨_, _, _, h4, Nat.le_refl _, Nat.le_refl _, am_r_get hd hok hci h2 h3⟩
  | putfield n =>
    simp only [am_ok, Bool.and_eq_true, Bool.or_eq_true, Bool.not_eq_true', beq_iff_eq, decide_eq_true_eq] at hok
    obtain ⟨rfl, ⟨hok, hci⟩, hfin⟩ := hok
    obtain ⟨a, st', fs, v, rfl, h2, h3, h4, h5, h6, h7⟩ := h
    exact ⟨_, _, _, h7, Nat.le_refl _, Nat.le_refl _, am_r_put hd hok (hfin.imp id (fun z => ⟨z.1.1, z.1.2, z.2⟩)) hci h2 h3 h4 h5 h6⟩
  | getstatic n =>
    simp only [am_ok, Bool.and_eq_true, Bool.or_eq_true, beq_iff_eq, decide_eq_true_eq] at hok
    obtain ⟨rfl, hok⟩ := hok
    exact ⟨_, _, _, h, Nat.le_refl _, Nat.le_refl _, am_r_sta hd hok⟩
  | new n =>
    simp only [am_ok, Bool.and_eq_true, beq_iff_eq, decide_eq_true_eq] at hok
    obtain ⟨rfl, hok, hci⟩ := hok
    exact ⟨_, _, _, h, Nat.le_succ _, Nat.le_add_right _ _, am_r_new hd hok hci⟩
  | newarray ty =>
    simp only [am_ok, Bool.and_eq_true, beq_iff_eq, decide_eq_true_eq] at hok
    obtain ⟨rfl, ⟨⟨ht, hw⟩, hdf⟩, hcb⟩ := hok
    obtain ⟨n, st', rfl, h2, h3, h4⟩ := h
    exact ⟨_, _, _, h4, Nat.le_succ _, Nat.le_add_right _ _, am_r_nwa hd ht hw hdf hcb h2 h3⟩
  | anewarray n =>
    simp only [am_ok, Bool.and_eq_true, beq_iff_eq] at hok
    obtain ⟨rfl, hok⟩ := hok
    split at hok
    · rename_i C hC
      simp only [Bool.and_eq_true, decide_eq_true_eq] at hok
      obtain ⟨k, st', rfl, h2, h3, h4⟩ := h
      exact ⟨_, _, _, h4, Nat.le_succ _, Nat.le_add_right _ _, am_r_nwq hd hC hok.1 hok.2 h2 h3⟩
    · cases hok
  | arraylength =>
    simp only [am_ok, beq_iff_eq] at hok
    subst hok
    obtain ⟨a, st', t, n, x, rfl, h2, h3, h4, h5⟩ := h
    obtain ⟨ty, hty⟩ := am_ty5 h2
    exact ⟨_, _, _, h5, Nat.le_refl _, Nat.le_refl _, am_r_len (x := (n, x)) hd hty h3 h4⟩
  | iaload =>
    simp only [am_ok, beq_iff_eq] at hok
    subst hok
    obtain ⟨a, j, st', n, f, rfl, h2, h3, h4⟩ := h
    exact ⟨_, _, _, h4, Nat.le_refl _, Nat.le_refl _, am_r_iald hd rfl h2 h3⟩
  | baload =>
    simp only [am_ok, beq_iff_eq] at hok
    subst hok
    obtain ⟨a, j, st', t, n, f, rfl, rfl | rfl, h2, h3, h4⟩ := h
    · exact ⟨_, _, _, h4, Nat.le_refl _, Nat.le_refl _, am_r_bald hd rfl h2 h3⟩
    · exact ⟨_, _, _, h4, Nat.le_refl _, Nat.le_refl _, am_r_zald hd rfl h2 h3⟩
  | aaload =>
    simp only [am_ok, beq_iff_eq] at hok
    subst hok
    obtain ⟨a, j, st', t, n, f, rfl, rfl | rfl, h2, h3, h4⟩ := h
    · exact ⟨_, _, _, h4, Nat.le_refl _, Nat.le_refl _, am_r_aald hd rfl h2 h3⟩
    · exact ⟨_, _, _, h4, Nat.le_refl _, Nat.le_refl _, am_r_aald hd rfl h2 h3⟩
  | iastore =>
    simp only [am_ok, beq_iff_eq] at hok
    subst hok
    obtain ⟨a, j, x, st', n, f, rfl, h2, h3, h4, h5⟩ := h
    exact ⟨_, _, _, h5, Nat.le_refl _, Nat.le_refl _, am_r_iast hd rfl h2 h3 h4⟩
  | bastore =>
    simp only [am_ok, beq_iff_eq] at hok
    subst hok
    obtain ⟨a, j, x, st', n, f, rfl, h2, h3, ⟨h4, h5⟩ | ⟨h4, h5⟩⟩ := h
    · exact ⟨_, _, _, h5, Nat.le_refl _, Nat.le_refl _, am_r_bast hd rfl h2 h4 h3⟩
    · exact ⟨_, _, _, h5, Nat.le_refl _, Nat.le_refl _, am_r_zast hd rfl h2 h4 h3⟩
  | aastore =>
    simp only [am_ok, beq_iff_eq] at hok
    subst hok
    obtain ⟨a, j, v, st', t, n, f, ci, fs, rfl, h2, h3, h4, h5, h6, h7⟩ := h
    obtain ⟨e1, e2⟩ := am_el_of h4
    exact ⟨_, _, _, h7, Nat.le_refl _, Nat.le_refl _, am_r_aast hd e1 e2 h2 h3 h5 h6⟩
  | checkcast n =>
    simp only [am_ok, Bool.and_eq_true, beq_iff_eq] at hok
    obtain ⟨rfl, hok⟩ := hok
    obtain ⟨a, st', n', f, rfl, h2, h3, h4⟩ := h
    exact ⟨_, _, _, h4, Nat.le_refl _, Nat.le_refl _, am_r_cst hd hok h2 h3⟩
  | idiv =>
    simp only [am_ok, beq_iff_eq] at hok
    subst hok
    obtain ⟨x, z, st', rfl, h2, h3⟩ := h
    exact ⟨_, _, _, h3, Nat.le_refl _, Nat.le_refl _, am_r_div hd h2⟩
  | irem =>
    simp only [am_ok, beq_iff_eq] at hok
    subst hok
    obtain ⟨x, z, st', rfl, h2, h3⟩ := h
    exact ⟨_, _, _, h3, Nat.le_refl _, Nat.le_refl _, am_r_rem hd h2⟩
  | _ => exact h.elim
def am_ri (v : Option Value) : Instr := match v with
  | some (.int _) => .ireturn
  | some (.long _) => .lreturn
  | some _ => .areturn
  | none => .return_
/-- what a run gives of the machine -/
def am_V (g : Nat × Nat) (D : va_G) (tys : List (ClassId × FieldType)) (l : Launch) (d y : Nat) (F : am_F) (σ : am_H) (v : Option Value) (σf : am_H) : Prop :=
  ∀ (p : Program) (e : Env) (R : Room) (s : State) (m : MethodId) (args : Array Value) (below : List Frame) (meth : Method) (c : Code) (H : Heap) (locs : List Loc) (cells slots : Nat) (Qw : State → Prop) (ls : Array Slot), am_Cx g D tys y p s m args meth c → am_has ls (am_ml y) F.2.1 → am_Dx g D tys s σ H locs → d ≤ R.frames → 60 * d ≤ R.locals → cells + (σf.2.1 - σ.2.1) ≤ R.cells → slots + (σf.2.2 - σ.2.2) ≤ R.slots →
    (∀ (pc' : Nat) (ls' : Array Slot) (H' : Heap) (locs' : List Loc), decode (am_by y) pc' = .ok (am_ri v, 1) → am_rtok y v → am_Dx g D tys s σf H' locs' → W p l e R s m args below meth c H' locs' (cells + (σf.2.1 - σ.2.1)) (slots + (σf.2.2 - σ.2.2)) Qw (F0 m pc' ls' v.toList)) →
    W p l e R s m args below meth c H locs cells slots Qw (F0 m F.1 ls F.2.2)
def am_P (g : Nat × Nat) (D : va_G) (tys : List (ClassId × FieldType)) (l : Launch) : am_T0 := fun d y F σ Q =>
  ∃ (v : Option Value) (σf : am_H), Q v σf ∧ σ.2.1 ≤ σf.2.1 ∧ σ.2.2 ≤ σf.2.2 ∧ am_V g D tys l d y F σ v σf
def am_ws (y : Nat) : List Jvm.Cond := .code (am_yn y) (am_by y) (am_ml y) (am_re y) :: am_Ts
theorem am_w_of {w : Jvm.Cond} (h : am_w w = true) : w ∈ am_Ts ∧ ((w.onTables && w.keeps) = true ∨ ∃ ty, w = .arrayClass ty) := by
  refine ⟨List.mem_filter.mpr ⟨?_, h⟩, ?_⟩
  · simp only [am_w, Bool.and_eq_true, decide_eq_true_eq] at h
    exact h.1
  · simp only [am_w, Bool.and_eq_true, Bool.or_eq_true, decide_eq_true_eq] at h
    rcases h.2 with q | q
    · exact Or.inl (by rw [Bool.and_eq_true]; exact q)
    · right
      unfold am_isA at q
      split at q
      · exact ⟨_, rfl⟩
      · cases q
theorem am_good {y : Nat} (hc : am_w (.code (am_yn y) (am_by y) (am_ml y) (am_re y)) = true) : GoodIn am_Ts (am_ws y) := by
  intro w hw
  rcases List.mem_cons.mp hw with rfl | hw
  · exact am_w_of hc
  · exact am_w_of (List.mem_filter.mp hw).2
set_option maxHeartbeats 4000000 in
theorem am_met {g : Nat × Nat} {D : va_G} {tys : List (ClassId × FieldType)} {l : Launch} {d y : Nat} {vs : List Value} {σ σf : am_H} {v : Option Value} (hV : am_V g D tys l d y (0, am_pad (am_ent vs) (am_ml y), []) σ v σf) (hlen : (am_ent vs).length ≤ am_ml y) (hpl : plainName (am_yn y).cls = true) :
    Met l (am_yn y) (am_ws y) { frames := d, cells := σf.2.1 - σ.2.1, slots := σf.2.2 - σ.2.2, locals := 60 * d } (va_Pc vs (fun U => am_G g D tys U U.heap ∧ g.1 ≤ U.heap.size ∧ am_rep g D tys U σ U.heap)) (fun _ st oc t => oc = .returned v ∧ am_rep g D tys t σf t.heap ∧ va_F (am_A g) st t) (σf.2.1 - σ.2.1) (σf.2.2 - σ.2.2) (am_A g) := by
  refine Met.ofW (cc := am_by y) (maxL := am_ml y) (ret := am_re y) hpl rfl ?_
  intro p e s m args below meth c s₁ B hml hv
  obtain ⟨rfl, hG, hB, hrep⟩ := hv
  have hts := atoms_spec (ws := am_ws y) B.pre
  have hlocks := B.notSynchronized
  rw [lg_entry_eq]
  refine hV p e _ s m _ below meth c s.heap [] 0 0 _ _ ⟨B.exec, B.bytes, hml, findClass_of_methodNamed B.named, fun w hw => hts w (List.mem_cons_of_mem _ (am_w_of hw).1), (name_of_methodNamed B.named B.method).1, B.returns, hlocks, hG, hB⟩ (am_entry vs hlen) ⟨hrep, va_S.rf⟩ (Nat.le_refl _) (Nat.le_refl _) (by rw [Nat.zero_add]; exact Nat.le_refl _) (by rw [Nat.zero_add]; exact Nat.le_refl _) ?_
  intro pc' ls' H' locs' hdc hrt hDx
  rw [Nat.zero_add, Nat.zero_add]
  have hq : ∀ t : State, t.heap = H' → s.WarmedH t.vm → (Outcome.returned v = Outcome.returned v ∧ am_rep g D tys t σf t.heap ∧ va_F (am_A g) s t) := fun t ht hW => ⟨rfl, by rw [ht]; exact hDx.1.moved hW.alike, hDx.2.F ht⟩
  have hr := B.returns
  match v, hdc, hrt, hq with
  | some (.int x), hdc, hrt, hq =>
    obtain ⟨ty, h1, h2⟩ := hrt
    exact W.zret B.exec B.bytes (hr.trans h1) h2 hq hDx.2.2.2 hdc
  | some (.long x), hdc, hrt, hq => exact W.lret B.exec B.bytes (hr.trans hrt) hq hDx.2.2.2 hdc
  | some .null, hdc, hrt, hq =>
    obtain ⟨ty, h1, h2⟩ := hrt
    exact W.aret B.exec B.bytes (hr.trans h1) h2 (Or.inl rfl) hq hDx.2.2.2 hdc
  | some (.ref a), hdc, hrt, hq =>
    obtain ⟨ty, h1, h2⟩ := hrt
    exact W.aret B.exec B.bytes (hr.trans h1) h2 (Or.inr ⟨a, rfl⟩) hq hDx.2.2.2 hdc
  | none, hdc, hrt, hq => exact W.vret B.exec B.bytes (hr.trans hrt) hq hDx.2.2.2 hdc
theorem am_G.go {g : Nat × Nat} {D : va_G} {tys : List (ClassId × FieldType)} {s U : State} {H : Heap} {locs : List Loc} (h : am_G g D tys s s.heap) (hS : va_S (am_A g) s.heap H locs) (hU : U.heap = H) (hW : s.WarmedH U.vm) : am_G g D tys U U.heap := by
  refine ⟨va_K.moved hW.alike h.1, h.2.1, fun w hw => ?_, fun C hC => va_AO.moved hW.alike (h.2.2.2.1 C hC), ?_, va_Nw.warmC hW h.2.2.2.2.2⟩
  · have h1 := h.2.2.1 w hw
    rcases List.mem_append.mp hw with q | q
    · obtain ⟨x, -, rfl⟩ := List.mem_map.mp q
      exact va_Nw.warmF hW h1
    · obtain ⟨x, -, rfl⟩ := List.mem_map.mp q
      exact va_Nw.warmM hW h1
  · rw [hU]
    exact (h.2.2.2.2.1.kept (fun a ha hA => hS.2.1 a ha hA)).moved hW.alike
theorem am_blind {g : Nat × Nat} {D : va_G} {tys : List (ClassId × FieldType)} {vs : List Value} {σ : am_H} : FrameBlind (va_Pc vs (fun U => am_G g D tys U U.heap ∧ g.1 ≤ U.heap.size ∧ am_rep g D tys U σ U.heap)) := by
  intro a U gg mk q
  obtain ⟨q0, ⟨q1, q2, q3, q4, q5, q8⟩, q6, q7⟩ := q
  have hv : U.vm.Alike (U.calling gg mk a).vm := Vm.Alike.refl U.vm
  refine ⟨q0, ⟨va_K.moved hv q1, q2, fun w hw => ?_, fun C hC => va_AO.moved hv (q4 C hC), q5.moved hv, va_tabs (u := U) (A := #[]) rfl rfl q8⟩, q6, q7.moved hv⟩
  have h1 := q3 w hw
  rcases List.mem_append.mp hw with z | z
  · obtain ⟨x, -, rfl⟩ := List.mem_map.mp z
    exact va_tabs (u := U) (A := #[]) rfl rfl h1
  · obtain ⟨x, -, rfl⟩ := List.mem_map.mp z
    exact va_tabs (u := U) (A := #[]) rfl rfl h1
end
section
section AMC
variable {p : Program} {l : Launch} {e : Env} {R : Room} {s : State} {m : MethodId} {args : Array Value} {below : List Frame} {meth : Method} {c : Code} {H : Heap} {locs : List Loc} {cells slots : Nat} {Q : State → Prop}
theorem am_cont {g : Nat × Nat} {D : va_G} {tys : List (ClassId × FieldType)} {σf : am_H} {v : Option Value} {mc ms pc : Nat} {ls : Array Slot} {st0 rest : List Value} (hr : va_Run p l e R s m args below meth c H locs cells slots mc ms (F0 m pc ls st0) rest (fun st oc t => oc = .returned v ∧ am_rep g D tys t σf t.heap ∧ va_F (am_A g) st t) (am_A g)) (hS : va_S (am_A g) s.heap H locs)
    (kk : ∀ (H1 : Heap) (locs1 : List Loc), am_Dx g D tys s σf H1 locs1 → W p l e R s m args below meth c H1 locs1 (cells + mc) (slots + ms) Q (F0 m (pc + 3) ls (v.toList ++ rest))) : W p l e R s m args below meth c H locs cells slots Q (F0 m pc ls st0) := by
  intro T hT X
  obtain ⟨v', st₀, t, T', L, h0, X', hL, e1, e2, ⟨hv, hrep, hz, hk⟩, st⟩ := hr T hT X
  cases hv
  rw [h0] at hz hk
  have hal : s.vm.Alike t.vm := by rw [← e2]; exact X'.warmed.alike
  obtain ⟨t2, a1, b1⟩ := kk T'.heap (locs ++ L) ⟨by rw [e1]; exact hrep.moved hal.symm, Nat.le_trans hS.1 (by rw [e1]; exact hz), fun q h1 h2 => by rw [e1, hk q (Nat.lt_of_lt_of_le h1 hS.1) h2]; exact hS.2.1 q h1 h2, fun q hq => by
      rcases List.mem_append.mp hq with h | h
      · exact hS.2.2 q h
      · exact hL q h⟩ T' rfl X'
  exact ⟨t2, st t2 a1, b1⟩
theorem am_okc_of {y i k y' : Nat} (h : am_okc y i k y' = true) : am_w (.code (am_yn y') (am_by y') (am_ml y') (am_re y')) = true ∧ am_w (.initialized (am_yn y').cls) = true ∧ (am_w (.methodLink (am_ow y) i (am_yn y')) = true ∨ Jvm.Cond.methodLinkNest (am_ow y) i (am_yn y') am_host ∈ am_nst) ∧ ((am_yn y').cls ≠ "java/lang/invoke/MethodHandle" ∧ (am_yn y').cls ≠ "java/lang/invoke/VarHandle") ∧ (parseMethodDescriptor (am_yn y').desc).map (fun d => d.parameters.length) = some (if k = 0 then am_ar y' else am_ar y' - 1) ∧ plainName (am_yn y').cls = true ∧ (am_ml y' ≤ 41 ∧ (k = 0 ∨ 0 < am_ar y')) ∧
    (if k = 0 then am_w (.static (am_yn y')) else if k = 1 then decide ((am_yn y').name = "<init>" ∧ am_re y' = none) && am_w (.instanceMethod (am_yn y')) else decide (am_cn (am_ko y') = (am_yn y').cls ∧ am_ko y' < am_nc) && (am_w (.instanceMethod (am_yn y')) && am_w (.selects (am_yn y').cls (am_yn y') (am_yn y')))) = true := by
  unfold am_okc at h
  rw [Bool.and_eq_true, Bool.and_eq_true, Bool.and_eq_true, Bool.and_eq_true, Bool.and_eq_true, Bool.and_eq_true, Bool.and_eq_true, Bool.or_eq_true] at h
  obtain ⟨h1, h2, h3, h4, h5, h6, h7, h8⟩ := h
  exact ⟨h1, h2, h3.imp id of_decide_eq_true, of_decide_eq_true h4, of_decide_eq_true h5, h6, of_decide_eq_true h7, h8⟩
set_option maxHeartbeats 4000000 in
theorem am_caW {g : Nat × Nat} {D : va_G} {tys : List (ClassId × FieldType)} {d y y' pc i k : Nat} {ins : Instr} {vs rest : List Value} {σ σ1 : am_H} {v : Option Value} {ls : Array Slot}
    (hC : am_Cx g D tys y p s m args meth c) (hsz : ls.size = am_ml y) (hDx : am_Dx g D tys s σ H locs) (hok : am_okc y i k y' = true) (hins : (k = 0 ∧ ins = .invokestatic i) ∨ (k = 1 ∧ ins = .invokespecial i) ∨ (k = 2 ∧ ins = .invokevirtual i)) (hd : decode (am_by y) pc = .ok (ins, 3)) (hfr : d + 1 ≤ R.frames) (hlo : 60 * (d + 1) ≤ R.locals) (hlen : vs.length = am_ar y') (hsum : (rest.map fun v => v.category).sum ≤ 8) (hent : (am_ent vs).length ≤ am_ml y')
    (hk : k = 0 ∨ (k = 1 ∧ ∃ b As, vs = .ref b :: As) ∨ (k = 2 ∧ ∃ b As fs, vs = .ref b :: As ∧ σ.1 b = some (.inr (am_ko y', fs)))) (hV : am_V g D tys l d y' (0, am_pad (am_ent vs) (am_ml y'), []) σ v σ1) (hc : cells + (σ1.2.1 - σ.2.1) ≤ R.cells) (hs : slots + (σ1.2.2 - σ.2.2) ≤ R.slots)
    (kk : ∀ (H1 : Heap) (locs1 : List Loc), am_Dx g D tys s σ1 H1 locs1 → W p l e R s m args below meth c H1 locs1 (cells + (σ1.2.1 - σ.2.1)) (slots + (σ1.2.2 - σ.2.2)) Q (F0 m (pc + 3) ls (v.toList ++ rest))) : W p l e R s m args below meth c H locs cells slots Q (F0 m pc ls (vs.reverse ++ rest)) := by
  obtain ⟨w1, w2, w3, w4, w5, w6, ⟨w7, w9⟩, w8⟩ := am_okc_of hok
  obtain ⟨hx, hb, hml, hown, hts, hnm, hr, hlk, hG, hB⟩ := hC
  have hM := am_met hV hent w6
  have hT := am_ts hts
  have hgd := am_good w1
  have hR : d + 1 ≤ R.frames ∧ 8 + (am_ml y' + 11) + 60 * d ≤ R.locals := ⟨hfr, by omega⟩
  have hfix : CallFix p m c (am_by y) (am_ml y) s args am_Ts (am_ow y) := ⟨hx, hb, hml, hown, hT⟩
  have hpre : ∀ U : State, U.heap = H → s.WarmedH U.vm → va_Pc vs (fun U => am_G g D tys U U.heap ∧ g.1 ≤ U.heap.size ∧ am_rep g D tys U σ U.heap) vs.toArray U := fun U hU hW => ⟨rfl, hG.go hDx.2 hU hW, by rw [hU]; exact Nat.le_trans hB hDx.2.1, by rw [hU]; exact hDx.1.moved hW.alike⟩
  have hroom : 2 * (F0 m pc ls (vs.reverse ++ rest)).monitorRoom + (rest.map fun v => v.category).sum ≤ 8 := lv_room hsum
  refine am_cont (mc := σ1.2.1 - σ.2.1) (ms := σ1.2.2 - σ.2.2) ?_ hDx.2 kk
  rcases hins with ⟨rfl, rfl⟩ | ⟨rfl, rfl⟩ | ⟨rfl, rfl⟩
  · simp only [if_true] at w5 w8
    rcases w3 with w3 | w3
    · exact va_runS hfix hM ⟨callB_of (am_ar y') hT hgd rfl rfl rfl (hts _ w2) (hts _ w3) ⟨w4.1, w4.2, w5⟩ hR, hts _ w8⟩ ⟨am_blind, hpre⟩ rfl hlen hsz rfl hroom hd ⟨hc, hs⟩
    · exact va_runSN hfix hM ⟨va_cnB (am_ar y') hT hgd rfl rfl rfl (hG.2.2.1 _ w3) (hts _ w2) ⟨w4.1, w4.2, w5⟩ hR, hts _ w8, trivial⟩ ⟨am_blind, hpre⟩ rfl hlen hsz rfl hroom hd ⟨hc, hs⟩
  · rcases hk with hk | ⟨-, b, As, rfl⟩ | ⟨hk, -⟩
    · cases hk
    · simp only [if_true, if_false, Nat.one_ne_zero, Bool.and_eq_true, decide_eq_true_eq] at w5 w8
      obtain ⟨⟨w10, w11⟩, w12⟩ := w8
      have hn : As.length = am_ar y' - 1 := by rw [← hlen]; simp
      rcases w3 with w3 | w3
      · exact va_runI (b := b) (As := As) hfix hM ⟨callB_of (ret := none) (am_ar y' - 1) hT hgd (by unfold am_ws; rw [w11]) rfl rfl (hts _ w2) (hts _ w3) ⟨w4.1, w4.2, w5⟩ hR, w10, hts _ w12⟩ ⟨am_blind, hpre⟩ rfl hn hsz (by simp) hroom hd ⟨hc, hs⟩
      · exact va_runIN (b := b) (As := As) hfix hM ⟨va_cnB (ret := none) (am_ar y' - 1) hT hgd (by unfold am_ws; rw [w11]) rfl rfl (hG.2.2.1 _ w3) (hts _ w2) ⟨w4.1, w4.2, w5⟩ hR, w10, hts _ w12⟩ ⟨am_blind, hpre⟩ rfl hn hsz (by simp) hroom hd ⟨hc, hs⟩
    · cases hk
  · rcases hk with hk | ⟨hk, -⟩ | ⟨-, b, As, fs, rfl, hcell⟩
    · cases hk
    · cases hk
    · simp only [if_false, Nat.succ_ne_self, Bool.and_eq_true, decide_eq_true_eq, show ¬ (2 : Nat) = 0 by decide, show ¬ (2 : Nat) = 1 by decide] at w5 w8
      obtain ⟨⟨w10, w11⟩, w12, w13⟩ := w8
      have hn : As.length = am_ar y' - 1 := by rw [← hlen]; simp
      have hrecv : ∃ cellB : Cell, H[b]? = some cellB ∧ cellB.vm.isStatics = false ∧ s.vm.findClass (am_yn y').cls = some cellB.cls := by
        have := va_recv (q0 := 0) hG.1 (hDx.1.one hcell) (am_cl _ w11) rfl
        rw [← w10]
        exact this
      rcases w3 with w3 | w3
      · exact va_runV (b := b) (As := As) hfix hM ⟨callB_of (am_ar y' - 1) hT hgd rfl rfl rfl (hts _ w2) (hts _ w3) ⟨w4.1, w4.2, w5⟩ hR, hts _ w12, hts _ w13⟩ ⟨am_blind, hrecv, hpre⟩ rfl hn hsz (by simp) hroom hd ⟨hc, hs⟩
      · exact va_runVN (b := b) (As := As) hfix hM ⟨va_cnB (am_ar y' - 1) hT hgd rfl rfl rfl (hG.2.2.1 _ w3) (hts _ w2) ⟨w4.1, w4.2, w5⟩ hR, hts _ w12, hts _ w13⟩ ⟨am_blind, hrecv, hpre⟩ rfl hn hsz (by simp) hroom hd ⟨hc, hs⟩
end AMC
end
section
set_option maxHeartbeats 4000000 in
theorem am_main (g : Nat × Nat) (D : va_G) (tys : List (ClassId × FieldType)) (l : Launch) : ∀ d y F σ Q, am_Ph g (am_P g D tys l) d y F σ Q → am_P g D tys l d y F σ Q := by
  intro d y F σ Q h
  obtain ⟨pc, L, st⟩ := F
  obtain ⟨r, hr, h⟩ := h
  obtain ⟨hd, hok⟩ := am_rows hr
  have step : ∀ (pc' : Nat) (st' : List Value) (σ' : am_H), am_P g D tys l d y (pc', L, st') σ' Q → σ.2.1 ≤ σ'.2.1 → σ.2.2 ≤ σ'.2.2 → am_gh g D tys d y pc st σ pc' st' σ' → am_P g D tys l d y (pc, L, st) σ Q := by
    intro pc' st' σ' hP n1 n2 hgh
    obtain ⟨v, σf, hQ, m1, m2, hV⟩ := hP
    refine ⟨v, σf, hQ, Nat.le_trans n1 m1, Nat.le_trans n2 m2, ?_⟩
    intro p e R s m args below meth c H locs cells slots Qw ls hC hl hDx hf hlo hc hs hret
    have e1 : cells + (σ'.2.1 - σ.2.1) + (σf.2.1 - σ'.2.1) = cells + (σf.2.1 - σ.2.1) := by omega
    have e2 : slots + (σ'.2.2 - σ.2.2) + (σf.2.2 - σ'.2.2) = slots + (σf.2.2 - σ.2.2) := by omega
    refine hgh p l e R s m args below meth c H locs cells slots Qw ls hC hDx hl.1 hf hlo (by omega) (by omega) (fun H' locs' hDx' => ?_)
    refine hV p e R s m args below meth c H' locs' _ _ Qw ls hC hl hDx' hf hlo (by omega) (by omega) ?_
    intro pc'' ls' H'' locs'' a1 a2 a3
    rw [e1, e2]
    exact hret pc'' ls' H'' locs'' a1 a2 a3
  have cg : ∀ (i k y' : Nat), am_okc y i k y' = true → ((k = 0 ∧ r.1 = .invokestatic i) ∨ (k = 1 ∧ r.1 = .invokespecial i) ∨ (k = 2 ∧ r.1 = .invokevirtual i)) → r.2.1 = 3 → am_cg (am_P g D tys l) k d y y' (pc, L, st) σ Q → am_P g D tys l d y (pc, L, st) σ Q := by
    intro i k y' hokc hins hlen3 hcg
    obtain ⟨d', vs, rest, Q', rfl, hst, h3, h4, h5, h6, ⟨v1, σ1, hQ1, m1, m2, hV1⟩, h8⟩ := hcg
    obtain ⟨v, σf, hQ, n1, n2, hV⟩ := h8 v1 σ1 hQ1
    refine ⟨v, σf, hQ, Nat.le_trans m1 n1, Nat.le_trans m2 n2, ?_⟩
    intro p e R s m args below meth c H locs cells slots Qw ls hC hl hDx hf hlo hc hs hret
    have e1 : cells + (σ1.2.1 - σ.2.1) + (σf.2.1 - σ1.2.1) = cells + (σf.2.1 - σ.2.1) := by omega
    have e2 : slots + (σ1.2.2 - σ.2.2) + (σf.2.2 - σ1.2.2) = slots + (σf.2.2 - σ.2.2) := by omega
    rw [hlen3] at hd
    dsimp only at hst
    subst hst
    refine am_caW (ins := r.1) hC hl.1 hDx hokc hins hd hf hlo h3 h4 h5 h6 hV1 (by omega) (by omega) (fun H1 locs1 hD1 => ?_)
    refine hV p e R s m args below meth c H1 locs1 _ _ Qw ls hC hl hD1 hf hlo (by omega) (by omega) ?_
    intro pc'' ls' H'' locs'' a1 a2 a3
    rw [e1, e2]
    exact hret pc'' ls' H'' locs'' a1 a2 a3
  rcases h with ⟨F', hp, v, σf, hQ, m1, m2, hV⟩ | h | h | h | h
  · refine ⟨v, σf, hQ, m1, m2, ?_⟩
    intro p e R s m args below meth c H locs cells slots Qw ls hC hl hDx hf hlo hc hs hret
    exact am_plW hC.1 hC.2.1 hC.2.2.2.1 hC.2.2.2.2.1 hd hok hl hp (fun ls' hl' => hV p e R s m args below meth c H locs cells slots Qw ls' hC hl' hDx hf hlo hc hs hret)
  · obtain ⟨pc', st', ⟨v, σf, hQ, m1, m2, hV⟩, hgo⟩ := am_brW hd hok h
    refine ⟨v, σf, hQ, m1, m2, ?_⟩
    intro p e R s m args below meth c H locs cells slots Qw ls hC hl hDx hf hlo hc hs hret
    exact hgo p l e R s m args below meth c H locs cells slots Qw ls hC.1 hC.2.1 (hV p e R s m args below meth c H locs cells slots Qw ls hC hl hDx hf hlo hc hs hret)
  · obtain ⟨pc', st', σ', hK, n1, n2, hgh⟩ := am_hpW (d := d) (D := D) (tys := tys) hd hok h
    exact step pc' st' σ' hK n1 n2 hgh
  · have fin : ∀ v : Option Value, st = v.toList → r.1 = am_ri v → am_rtok y v → Q v σ → r.2.1 = 1 → am_P g D tys l d y (pc, L, st) σ Q := by
      intro v hst hi hrt hQ h1
      refine ⟨v, σ, hQ, Nat.le_refl _, Nat.le_refl _, ?_⟩
      intro p e R s m args below meth c H locs cells slots Qw ls hC hl hDx hf hlo hc hs hret
      have k := hret pc ls H locs (by rw [hd, hi, h1]) hrt hDx
      rw [Nat.sub_self, Nat.sub_self, Nat.add_zero, Nat.add_zero] at k
      rw [hst]
      exact k
    obtain ⟨i, len, v0, a0, b0⟩ := r
    cases i with
    | ireturn =>
      simp only [am_ok, beq_iff_eq] at hok
      obtain ⟨x, h1, h2, h3⟩ := h
      exact fin (some (.int x)) h1 rfl h2 h3 hok
    | lreturn =>
      simp only [am_ok, beq_iff_eq] at hok
      obtain ⟨x, h1, h2, h3⟩ := h
      exact fin (some (.long x)) h1 rfl h2 h3 hok
    | return_ =>
      simp only [am_ok, beq_iff_eq] at hok
      obtain ⟨h1, h2, h3⟩ := h
      exact fin none h1 rfl h2 h3 hok
    | areturn =>
      simp only [am_ok, beq_iff_eq] at hok
      obtain ⟨w, h1, hw, h2, h3⟩ := h
      rcases hw with rfl | ⟨a, rfl⟩
      · exact fin (some .null) h1 rfl h2 h3 hok
      · exact fin (some (.ref a)) h1 rfl h2 h3 hok
    | _ => exact h.elim
  · obtain ⟨i, len, v0, a0, b0⟩ := r
    cases i with
    | invokevirtual n =>
      simp only [am_ok, Bool.and_eq_true, beq_iff_eq] at hok
      obtain ⟨rfl, hok⟩ := hok
      rcases h with ⟨h0, a, k, f, rest, h1, h2, h3, h4, h5, h6, h7⟩ | ⟨h0, h1⟩
      · dsimp only at h0 h1
        subst h0
        subst h1
        rw [if_pos rfl] at hok
        refine step _ _ _ h7 (Nat.le_succ _) (Nat.le_add_right _ _) ?_
        intro p l e R s m args below meth c H locs cells slots Qw ls hC hDx hsz hf hlo hc hs k
        have e1 : ∀ q : Nat, (am_psh σ (.inl (1, q, .inl f)) q).2.1 - σ.2.1 = 1 := fun q => by show σ.2.1 + 1 - σ.2.1 = 1; omega
        have e2 : ∀ q : Nat, (am_psh σ (.inl (1, q, .inl f)) q).2.2 - σ.2.2 = q := fun q => by show σ.2.2 + q - σ.2.2 = q; omega
        rw [e1] at hc k
        rw [e2] at hs k
        exact am_r_cln hC hDx (hsz.trans hC.2.2.1.symm) hok hd h2 (by omega) (by omega) h4 h5 h6 hc hs k
      · dsimp only at h0
        rw [if_neg h0] at hok
        exact cg n 2 a0 hok (Or.inr (Or.inr ⟨rfl, rfl⟩)) rfl h1
    | invokespecial n =>
      simp only [am_ok, Bool.and_eq_true, beq_iff_eq] at hok
      obtain ⟨rfl, hok⟩ := hok
      rcases h with ⟨h0, a, rest, h1, h2, h3, h4⟩ | ⟨h0, h1⟩
      · dsimp only at h0
        subst h0
        rw [if_pos rfl] at hok
        refine step _ _ σ h4 (Nat.le_refl _) (Nat.le_refl _) ?_
        dsimp only at h1
        subst h1
        intro p l e R s m args below meth c H locs cells slots Qw ls hC hDx hsz hf hlo _ _ k
        obtain ⟨hx, hb, hml, hown, hts, hnm, hr, hlk, hG, hB⟩ := hC
        have kk := k H locs hDx
        rw [Nat.sub_self, Nat.sub_self, Nat.add_zero, Nat.add_zero] at kk
        exact am_r_obj hx hb hown hts (hsz.trans hml.symm) hok hd h2 (by omega) (by omega) kk
      · dsimp only at h0
        rw [if_neg h0] at hok
        exact cg n 1 a0 hok (Or.inr (Or.inl ⟨rfl, rfl⟩)) rfl h1
    | invokestatic n =>
      simp only [am_ok, Bool.and_eq_true, beq_iff_eq] at hok
      obtain ⟨rfl, hok⟩ := hok
      rcases h with ⟨h0, n', dp, sp, a, a1, n0, n1, f, f1, rest, h1, h2, h3, h4, h5, h6, h7, h8, h9, h10, h11, h12, h13, h14⟩ | ⟨h0, x, z, rest, h1, h2, h3, h4⟩ | ⟨h0, h0', h1⟩
      · dsimp only at h0 h1
        subst h0
        subst h1
        rw [if_pos rfl] at hok
        refine step _ _ _ h14 (Nat.le_refl _) (Nat.le_refl _) ?_
        intro p l e R s m args below meth c H locs cells slots Qw ls hC hDx hsz hf hlo _ _ k
        refine am_r_cpy hC hDx (hsz.trans hC.2.2.1.symm) hok hd h2 (by omega) (by omega) h4 h5 h6 h7 h8 h9 h10 h11 h12 h13 (fun H' locs' hD' => ?_)
        have kk := k H' locs' hD'
        have e1 : ∀ q : am_C, (am_set σ a q).2.1 = σ.2.1 := fun _ => rfl
        have e2 : ∀ q : am_C, (am_set σ a q).2.2 = σ.2.2 := fun _ => rfl
        rw [e1, e2, Nat.sub_self, Nat.sub_self, Nat.add_zero, Nat.add_zero] at kk
        exact kk
      · dsimp only at h0 h1
        subst h0
        subst h1
        rw [if_neg (by decide), if_pos rfl] at hok
        refine step _ _ _ h4 (Nat.le_refl _) (Nat.le_refl _) ?_
        intro p l e R s m args below meth c H locs cells slots Qw ls hC hDx hsz hf hlo hc hs k
        have kk := k H locs hDx
        rw [Nat.sub_self, Nat.add_zero] at hc hs
        rw [Nat.sub_self, Nat.sub_self, Nat.add_zero, Nat.add_zero] at kk
        exact va_mmin hC.1 hC.2.1 (hC.2.2.1.trans hsz.symm) hC.2.2.2.1 (hC.2.2.2.2.1 _ hok) (hC.2.2.2.2.1 _ am_mm1.1) (hC.2.2.2.2.1 _ am_mm1.2.1) (hC.2.2.2.2.1 _ am_mm1.2.2) (by omega) (by omega) hc hs hd kk
      · dsimp only at h0 h0'
        rw [if_neg h0, if_neg h0'] at hok
        exact cg n 0 a0 hok (Or.inl ⟨rfl, rfl⟩) rfl h1
    | _ => exact h.elim
end
section
section P16
variable {g : Nat × Nat} {d y pc : Nat} {L : am_L} {st : List Value} {σ : am_H} {Q : Option Value → am_H → Prop}
theorem aw_s (vs rest : List Value) {y' i len b : Nat} {v0 : Value} (hr : am_find (am_code y) pc = some (.invokestatic i, len, v0, y', b)) (hb : ¬ b = 7 ∧ ¬ b = 8) (hst : st = vs.reverse ++ rest) (hlen : vs.length = am_ar y') (hsum : (rest.map fun v => v.category).sum ≤ 8) (hent : (am_ent vs).length ≤ am_ml y') (h : AW g d y' (0, am_pad (am_ent vs) (am_ml y'), []) σ (fun v σ' => AW g (d + 1) y (pc + 3, L, v.toList ++ rest) σ' Q)) : AW g (d + 1) y (pc, L, st) σ Q :=
  aw_cs vs rest _ hr hb hst hlen hsum hent h (fun _ _ q => q)
theorem aw_i (vs rest : List Value) {y' i len b : Nat} {v0 : Value} {a : Nat} {As : List Value} (hr : am_find (am_code y) pc = some (.invokespecial i, len, v0, y', b)) (hb : ¬ b = 9) (hvs : vs = .ref a :: As) (hst : st = vs.reverse ++ rest) (hlen : vs.length = am_ar y') (hsum : (rest.map fun v => v.category).sum ≤ 8) (hent : (am_ent vs).length ≤ am_ml y') (h : AW g d y' (0, am_pad (am_ent vs) (am_ml y'), []) σ (fun v σ' => AW g (d + 1) y (pc + 3, L, v.toList ++ rest) σ' Q)) : AW g (d + 1) y (pc, L, st) σ Q :=
  aw_ci vs rest _ hr hb hvs hst hlen hsum hent h (fun _ _ q => q)
theorem aw_v (vs rest : List Value) {y' i len b : Nat} {v0 : Value} {a : Nat} {As fs : List Value} (hr : am_find (am_code y) pc = some (.invokevirtual i, len, v0, y', b)) (hb : ¬ b = 6) (hvs : vs = .ref a :: As) (hc : σ.1 a = some (.inr (am_ko y', fs))) (hst : st = vs.reverse ++ rest) (hlen : vs.length = am_ar y') (hsum : (rest.map fun v => v.category).sum ≤ 8) (hent : (am_ent vs).length ≤ am_ml y') (h : AW g d y' (0, am_pad (am_ent vs) (am_ml y'), []) σ (fun v σ' => AW g (d + 1) y (pc + 3, L, v.toList ++ rest) σ' Q)) : AW g (d + 1) y (pc, L, st) σ Q :=
  aw_cv vs rest _ hr hb hvs hc hst hlen hsum hent h (fun _ _ q => q)
end P16
end
section
/-! THE CLAIM OUT OF ONE WALK OF THE LAW'S BODY. Your part is whole_start (and what it stands on); all else here is the same for every law, but numbers. -/
def R_law : String := "ValueOrderLaw"
def lw_P (b : Addr) (xs : List Int32) (args : Array Value) (s : State) : Prop := args = #[.ref b] ∧ s.IntsAt b xs ∧ xs.length ≤ 3072 ∧ (Jvm.Cond.and given_1 narrow_1).before args s = true
def lw_Q (_ : Array Value) (s : State) (o : Outcome) (t : State) : Prop := o = .returned (some (.int 1)) ∧ Framed s o t [] 600000 7302250
def lw_Z (below : List Frame) (a : Array Value) (s : State) : State → Prop := fun t => ∃ o, t.status = .running ∧ Ended t below o ∧ lw_Q a s o t
/-- the law's own end, with 1 on the stack, nothing written that was there before, its room as the claim has it -/
theorem lw_ret {p : Program} {l : Launch} {e : Env} {s : State} {m : MethodId} {below : List Frame} {meth : Method} {c : Code} {b : Nat} (hx : p.tables.exec = Jvm.exec) (hb : c.code = code) (hr : meth.sig.returnType = ret) (hlocks : meth.locks = false) {pc : Nat} {H : Heap} {ls : Array Slot} (hdg : decode code pc = .ok (.ireturn, 1)) : W p l e room_1 s m #[Value.ref b] below meth c H [] 600000 7302250 (lw_Z below #[Value.ref b] s) (F0 m pc ls [.int 1]) := by
  intro T hT X
  obtain ⟨fs, hret, hrun, hended, hW, hframe⟩ := X.leave (v := some (.int 1)) (hlocks := hlocks) (fun h => by rw [hr] at h; cases h)
  have hmeth' : T.vm.method? m = some meth := X.method'
  refine ⟨T.setFrames fs, ?_, .returned (some (.int 1)), hrun, hended, rfl, ⟨_, rfl⟩, hW, hframe⟩
  jvm_step X.here [X.here.top, hx, hb, hdg, hmeth', hr, ret, narrow_b1]
  (try refine ⟨rfl, ?_⟩); (try refine ⟨rfl, ?_⟩)
  first | (intro acts; rw [hret _ acts rfl rfl rfl]) | rw [hret _ _ rfl rfl rfl]
  exact Steps.refl _
/-- what holds at the law's entry: the machine, the code, the tables' words (any of lw_tbl by 'hts w (by decide +kernel)'), the script of L ints xs at the cell b, what the Statement gives of the start (any of its parts by flat_of_before) -/
def lw_At (p : Program) (s : State) (m : MethodId) (meth : Method) (c : Code) (b L : Nat) (xs : Nat → Int32) : Prop :=
  p.tables.exec = Jvm.exec ∧ c.code = code ∧ meth.sig.returnType = ret ∧ c.maxLocals = 4 ∧ s.vm.findClass R_law = some m.cls ∧ (∀ w ∈ lw_tbl, w.before #[Value.ref b] s = true) ∧ va_X b L xs s s.heap ∧ b < s.heap.size ∧ meth.locks = false ∧ (Jvm.Cond.and given_1 narrow_1).before #[Value.ref b] s = true ∧ meth.name = "law"
/-- the heap at the entry: the script, the static row -/
def am_h0 (b nb L : Nat) (xs : Nat → Int32) : Nat → Option am_C := fun a => if a = b then some (.inl (0, L, .inl xs)) else if a = nb then some (.inl (1, 0, .inl (fun _ => 0))) else none
/-- what is asked of the small machine -/
def am_goal (b L : Nat) (xs : Nat → Int32) : Prop := ∀ B nb : Nat, b < B → nb < B → b ≠ nb → AW (B, nb) 200 0 (0, [some (.ref b), none, none, none], []) (am_h0 b nb L xs, B, 0) (fun v σ' => v = some (.int 1) ∧ σ'.2.1 ≤ B + 600000 ∧ σ'.2.2 ≤ 7302250)
theorem am_nstW : ∀ w ∈ am_nst, w ∈ lw_tbl ∧ w.onTables = true := by decide +kernel
theorem am_aosW : ∀ C ∈ am_aos, Jvm.Cond.arrayOver (.object C) ∈ lw_tbl := by decide +kernel
set_option maxHeartbeats 4000000 in
theorem am_start {p : Program} {e : Env} {s : State} {m : MethodId} {below : List Frame} {meth : Method} {c : Code} (l : Launch) {b L : Nat} {xs : Nat → Int32} (hrun : am_goal b L xs) (C0 : lw_At p s m meth c b L xs) : W p l e room_1 s m #[Value.ref b] below meth c s.heap [] 0 0 (lw_Z below #[Value.ref b] s) (entryFrame m ([Value.ref b] : List Value).toArray 4) := by
  obtain ⟨hx, hb, hr, hml, hown, hts, hX, hbl, hlk, hgv, hnm⟩ := C0
  have hw : ∀ w, am_w w = true → w.before #[Value.ref b] s = true := fun w h => hts w (List.mem_filter.mp (am_w_of h).1).1
  have hD : ∀ ci : Nat, ∃ (cC : ClassId) (iS : Nat → Nat), ci < am_nc → u_Kn s (am_cn ci) (am_T ci) (am_nf ci) cC iS := by
    intro ci
    by_cases h : ci < am_nc
    · obtain ⟨cC, iS, hk⟩ := u_known (am_ts hw) (am_lay ci h) (hw _ (am_ins ci h))
      exact ⟨cC, iS, fun _ => hk⟩
    · exact ⟨0, fun _ => 0, fun q => absurd q h⟩
  obtain ⟨D, hDs⟩ : ∃ D : va_G, ∀ ci, ci < am_nc → u_Kn s (am_cn ci) (am_T ci) (am_nf ci) (D.1 ci) (D.2 ci) := ⟨(fun ci => Classical.choose (hD ci), fun ci => Classical.choose (Classical.choose_spec (hD ci))), fun ci => Classical.choose_spec (Classical.choose_spec (hD ci))⟩
  obtain ⟨cI, hI⟩ : ∃ cA, ArrOfT s cA .int ∧ va_RA s cA .int := by
    obtain ⟨cA, kA, comp, h1, h2, h3⟩ := Cond.arrayClass_spec (hw (.arrayClass .int) (by decide +kernel))
    exact ⟨cA, fun n z => ⟨(fun k h => by cases h), kA, h2, comp, h3⟩, h1⟩
  obtain ⟨cB, hBy⟩ : ∃ cA, ArrOfT s cA .byte ∧ va_RA s cA .byte := by
    obtain ⟨cA, kA, comp, h1, h2, h3⟩ := Cond.arrayClass_spec (hw (.arrayClass .byte) (by decide +kernel))
    exact ⟨cA, fun n z => ⟨(fun k h => by cases h), kA, h2, comp, h3⟩, h1⟩
  obtain ⟨cZ, hZo⟩ : ∃ cA, ArrOfT s cA .boolean ∧ va_RA s cA .boolean := by
    obtain ⟨cA, kA, comp, h1, h2, h3⟩ := Cond.arrayClass_spec (hw (.arrayClass .boolean) (by decide +kernel))
    exact ⟨cA, fun n z => ⟨(fun k h => by cases h), kA, h2, comp, h3⟩, h1⟩
  have hq : ∀ C, C ∈ am_aos → ∃ cA, ArrOfT s cA (.object C) ∧ va_RA s cA (.object C) := by
    intro C hC
    obtain ⟨comp, cA, kA, h1, h2, h3, h4, h5⟩ := Cond.arrayOver_spec (hts _ (am_aosW C hC))
    exact ⟨cA, fun n z => ⟨(fun k h => by cases h), kA, h3, comp, h4⟩, kA, comp, h3, h4, h1, h5⟩
  obtain ⟨cV, hV⟩ := hq "ValueOrder$Value" (by decide +kernel)
  obtain ⟨cL, hLi⟩ := hq "ValueOrder$ValueList" (by decide +kernel)
  have hs := flat_of_before _ hgv
  obtain ⟨nb, hnb, hT⟩ := va_Tof (tm := .static "ValueOrder" "NO_BYTES" "[B") (ty := .byte) (N := 0) (f := fun _ => .int 0) (A := am_A (s.heap.size, 0)) (by decide) (hs (.arrayOf (.static "ValueOrder" "NO_BYTES" "[B") .byte) (by decide +kernel)) (va_eqt (hs (.eq (.length (.static "ValueOrder" "NO_BYTES" "[B")) (.int 0)) (by decide +kernel))) (fun j hj => absurd hj (Nat.not_lt_zero _)) (fun a ha hA => absurd ha (Nat.not_lt.mpr hA))
  have hZ : va_Z "ValueOrder" "NO_BYTES" "[B" (.ref nb) (am_A (s.heap.size, nb)) s s.heap := va_Zref (hts (.laysStatic "ValueOrder" "NO_BYTES" "[B") (by decide +kernel)) (hts (.initialized "ValueOrder") (by decide +kernel)) hnb (fun a ha hA => absurd ha (Nat.not_lt.mpr hA))
  have hnl : nb < s.heap.size := by
    obtain ⟨cell, h1, -⟩ := hT
    exact (Array.getElem?_eq_some_iff.mp h1).1
  have hne : b ≠ nb := by
    intro q
    subst q
    obtain ⟨cell, h1, ⟨-, k1, hk1, comp1, hc1⟩, -⟩ := hT
    obtain ⟨scr, g1, ⟨-, k2, hk2, comp2, hc2⟩, -⟩ := hX
    cases h1.symm.trans g1
    cases hk1.symm.trans hk2
    rw [hc1] at hc2
    cases hc2
  have hK : va_K D am_vw [(cI, .int), (cB, .byte), (cZ, .boolean), (cV, .object "ValueOrder$Value"), (cL, .object "ValueOrder$ValueList")] s := by
    refine ⟨fun ci q hq => ?_, fun k q hk => ?_⟩
    · have hci : ci < am_nc := (List.getElem?_eq_some_iff.mp hq).1
      rw [am_cl ci hci] at hq
      cases hq
      exact hDs ci hci
    · have h5 : k < 5 := (List.getElem?_eq_some_iff.mp hk).1
      rcases (by omega : k = 0 ∨ k = 1 ∨ k = 2 ∨ k = 3 ∨ k = 4) with rfl | rfl | rfl | rfl | rfl
      · cases hk
        exact hI
      · cases hk
        exact hBy
      · cases hk
        exact hZo
      · cases hk
        exact hV
      · cases hk
        exact hLi
  have hG : am_G (s.heap.size, nb) D [(cI, .int), (cB, .byte), (cZ, .boolean), (cV, .object "ValueOrder$Value"), (cL, .object "ValueOrder$ValueList")] s s.heap :=
    ⟨hK, rfl, fun w hw' => va_Nw.of (am_nstW w hw').2 (hts w (am_nstW w hw').1), fun C hC => va_AO.of (hts _ (am_aosW C hC)), hZ, va_Nw.of rfl (hts (.castable "[B" "java/lang/Cloneable") (by decide +kernel))⟩
  have hrep : am_rep (s.heap.size, nb) D [(cI, .int), (cB, .byte), (cZ, .boolean), (cV, .object "ValueOrder$Value"), (cL, .object "ValueOrder$ValueList")] s (am_h0 b nb L xs, s.heap.size, 0) s.heap := by
    refine ⟨rfl, fun a q hq => ?_⟩
    simp only [am_h0] at hq
    by_cases e1 : a = b
    · subst e1
      rw [if_pos rfl] at hq
      cases hq
      obtain ⟨scr, g1, g2, g3, g4, g5⟩ := hX
      exact Or.inr ⟨0, L, xs, cI, .int, rfl, rfl, scr, g1, g2, g3, by rw [g4]; exact Nat.le_refl _, by rw [g4], g5, fun hA => absurd hbl (Nat.not_lt.mpr hA)⟩
    · rw [if_neg e1] at hq
      by_cases e2 : a = nb
      · subst e2
        rw [if_pos rfl] at hq
        cases hq
        exact Or.inr ⟨1, 0, fun _ => 0, cB, .byte, rfl, rfl, hT⟩
      · rw [if_neg e2] at hq
        cases hq
  obtain ⟨v, σf, ⟨rfl, hn1, hn2⟩, m1, m2, hV⟩ := AW.ind _ (am_main (s.heap.size, nb) D [(cI, .int), (cB, .byte), (cZ, .boolean), (cV, .object "ValueOrder$Value"), (cL, .object "ValueOrder$ValueList")] l) (hrun s.heap.size nb hbl hnl hne)
  rw [lg_entry_eq]
  have hc1 : 0 + (σf.2.1 - s.heap.size) ≤ room_1.cells := by
    show 0 + (σf.2.1 - s.heap.size) ≤ 600000
    omega
  have hs1 : 0 + (σf.2.2 - 0) ≤ room_1.slots := by
    show 0 + (σf.2.2 - 0) ≤ 7302250
    omega
  refine hV p e room_1 s m #[Value.ref b] below meth c s.heap [] 0 0 _ _ ⟨hx, hb, hml, hown, hw, hnm, hr, hlk, hG, Nat.le_refl _⟩ (am_entry [.ref b] (Nat.le_of_ble_eq_true rfl)) ⟨hrep, va_S.rf⟩ (by decide +kernel) (by decide +kernel) hc1 hs1 ?_
  intro pc' ls' H' locs' hdc hrt hDx
  refine va_forget (fun q hq => hDx.2.2.2 q hq) ?_
  refine W.widen (k := 600000) (n := 7302250) hc1 hs1 ?_
  exact lw_ret hx hb hr hlk hdc
end
section
/-! values as trees: an element has a kind, a name, a number, a text; what lies in it; what comes behind it -/
abbrev sp_B : Type := Nat × List Nat × Int × List Nat
abbrev sp_F : Type := Std.DTreeMap.Internal.Impl sp_B (fun _ => Unit)
abbrev sp_V : Type := sp_B × sp_F
def sp_cls (k : Nat) : Nat := if k = 10 then 1 else if k = 16 ∨ k = 18 then 2 else if k = 2 then 3 else if k = 3 then 4 else if k = 4 then 5 else if k = 8 then 6 else 0
def sp_nc (a b : Nat) : Int32 := if a < b then -1 else if a = b then 0 else 1
def sp_ic (a b : Int) : Int32 := if a < b then -1 else if a = b then 0 else 1
def sp_or (a b : Int32) : Int32 := if a = 0 then b else a
def sp_bc : List Nat → List Nat → Int32
  | [], [] => 0
  | [], _ :: _ => -1
  | _ :: _, [] => 1
  | a :: x, b :: y => sp_or (sp_nc a b) (sp_bc x y)
def sp_fc : sp_F → sp_F → Int32
  | .leaf, .leaf => 0
  | .leaf, .inner _ _ _ _ _ => -1
  | .inner _ _ _ _ _, .leaf => 1
  | .inner _ b _ c r, .inner _ b' _ c' r' => sp_or (sp_nc (sp_cls b.1) (sp_cls b'.1)) (sp_or (sp_bc b.2.1 b'.2.1) (sp_or (sp_or (sp_ic b.2.2.1 b'.2.2.1) (sp_or (sp_bc b.2.2.2 b'.2.2.2) (sp_fc c c'))) (sp_fc r r')))
def sp_vc (v w : sp_V) : Int32 := sp_or (sp_nc (sp_cls v.1.1) (sp_cls w.1.1)) (sp_or (sp_ic v.1.2.2.1 w.1.2.2.1) (sp_or (sp_bc v.1.2.2.2 w.1.2.2.2) (sp_fc v.2 w.2)))
/-- how three answers hang together -/
def sp_tr (x y z : Int32) : Prop := (x = 0 → z = y) ∧ (y = 0 → z = x) ∧ (x = y → z = x)
theorem sp_or_0 (b : Int32) : sp_or 0 b = b := rfl
theorem sp_or_n {a : Int32} (h : a ≠ 0) (b : Int32) : sp_or a b = a := by simp [sp_or, h]
theorem sp_tr_or {x y z x' y' z' : Int32} (h : sp_tr x y z) (h' : sp_tr x' y' z') : sp_tr (sp_or x x') (sp_or y y') (sp_or z z') := by
  obtain ⟨h1, h2, h3⟩ := h
  by_cases hx : x = 0
  · have hz := h1 hx
    subst hz
    subst hx
    by_cases hy : z = 0
    · subst hy
      exact h'
    · rw [sp_or_0, sp_or_n hy, sp_or_n hy]
      exact ⟨fun _ => rfl, fun q => absurd q hy, fun q => q.symm⟩
  · by_cases hy : y = 0
    · have hz := h2 hy
      subst hz
      subst hy
      rw [sp_or_0, sp_or_n hx, sp_or_n hx]
      exact ⟨fun q => absurd q hx, fun _ => rfl, fun _ => rfl⟩
    · rw [sp_or_n hx, sp_or_n hy]
      refine ⟨fun q => absurd q hx, fun q => absurd q hy, fun q => ?_⟩
      rw [h3 q, sp_or_n hx]
theorem sp_or_neg (x y : Int32) : sp_or (-x) (-y) = -sp_or x y := by
  by_cases hx : x = 0
  · subst hx
    rfl
  · have h2 : -x ≠ 0 := fun q => hx (by rw [← Int32.neg_neg (a := x), q]; rfl)
    rw [sp_or_n hx, sp_or_n h2]
theorem sp_nc_tr (a b c : Nat) : sp_tr (sp_nc a b) (sp_nc b c) (sp_nc a c) := by
  unfold sp_tr sp_nc
  rcases Nat.lt_trichotomy a b with h | h | h <;> rcases Nat.lt_trichotomy b c with h' | h' | h' <;> rcases Nat.lt_trichotomy a c with h2 | h2 | h2 <;> first | omega | (simp [h, h', h2, Nat.lt_asymm, Nat.ne_of_gt, Nat.not_lt_of_gt, Nat.ne_of_lt]; try decide)
theorem sp_nc_neg (a b : Nat) : sp_nc b a = -sp_nc a b := by
  unfold sp_nc
  rcases Nat.lt_trichotomy a b with h | h | h
  · rw [if_pos h, if_neg (by omega), if_neg (by omega)]
    decide
  · subst h
    simp
  · rw [if_pos h, if_neg (by omega), if_neg (by omega)]
theorem sp_ic_tr (a b c : Int) : sp_tr (sp_ic a b) (sp_ic b c) (sp_ic a c) := by
  have key : ∀ p q : Int, (p < q ∧ sp_ic p q = -1) ∨ (p = q ∧ sp_ic p q = 0) ∨ (q < p ∧ sp_ic p q = 1) := by
    intro p q
    unfold sp_ic
    by_cases h : p < q
    · exact Or.inl ⟨h, if_pos h⟩
    · by_cases h2 : p = q
      · exact Or.inr (Or.inl ⟨h2, by rw [if_neg h, if_pos h2]⟩)
      · exact Or.inr (Or.inr ⟨by omega, by rw [if_neg h, if_neg h2]⟩)
  unfold sp_tr
  rcases key a b with ⟨h, e⟩ | ⟨h, e⟩ | ⟨h, e⟩ <;> rcases key b c with ⟨h', e'⟩ | ⟨h', e'⟩ | ⟨h', e'⟩ <;> rcases key a c with ⟨h2, e2⟩ | ⟨h2, e2⟩ | ⟨h2, e2⟩ <;> first | omega | (rw [e, e', e2]; decide)
theorem sp_ic_neg (a b : Int) : sp_ic b a = -sp_ic a b := by
  unfold sp_ic
  rcases Int.lt_trichotomy a b with h | h | h
  · rw [if_pos h, if_neg (by omega), if_neg (by omega)]
    decide
  · subst h
    simp
  · rw [if_pos h, if_neg (by omega), if_neg (by omega)]
theorem sp_tr_000 : sp_tr 0 0 0 := ⟨fun _ => rfl, fun _ => rfl, fun _ => rfl⟩
theorem sp_bc_tr : ∀ a b c : List Nat, sp_tr (sp_bc a b) (sp_bc b c) (sp_bc a c)
  | [], [], [] => by unfold sp_tr sp_bc; decide
  | [], [], _ :: _ => by unfold sp_tr; simp only [sp_bc]; decide
  | [], _ :: _, [] => by unfold sp_tr; simp only [sp_bc]; decide
  | [], _ :: _, _ :: _ => by
    simp only [sp_bc]
    refine ⟨fun q => absurd q (by decide), fun _ => rfl, fun _ => rfl⟩
  | _ :: _, [], [] => by unfold sp_tr; simp only [sp_bc]; decide
  | _ :: _, [], _ :: _ => by
    simp only [sp_bc]
    refine ⟨fun q => absurd q (by decide), fun q => absurd q (by decide), fun q => absurd q (by decide)⟩
  | _ :: _, _ :: _, [] => by
    simp only [sp_bc]
    refine ⟨fun _ => rfl, fun q => absurd q (by decide), fun q => q.symm⟩
  | a :: x, b :: y, c :: z => by
    simp only [sp_bc]
    exact sp_tr_or (sp_nc_tr a b c) (sp_bc_tr x y z)
theorem sp_bc_neg : ∀ a b : List Nat, sp_bc b a = -sp_bc a b
  | [], [] => rfl
  | [], _ :: _ => by simp only [sp_bc]; decide
  | _ :: _, [] => by simp only [sp_bc]
  | a :: x, b :: y => by simp only [sp_bc]; rw [sp_nc_neg a b, sp_bc_neg x y, sp_or_neg]
theorem sp_fc_tr : ∀ a b c : sp_F, sp_tr (sp_fc a b) (sp_fc b c) (sp_fc a c)
  | .leaf, .leaf, .leaf => by unfold sp_tr; simp only [sp_fc]; decide
  | .leaf, .leaf, .inner _ _ _ _ _ => by unfold sp_tr; simp only [sp_fc]; decide
  | .leaf, .inner _ _ _ _ _, .leaf => by unfold sp_tr; simp only [sp_fc]; decide
  | .leaf, .inner _ _ _ _ _, .inner _ _ _ _ _ => by
    refine ⟨fun q => ?_, fun _ => ?_, fun _ => ?_⟩
    · simp only [sp_fc] at q
      exact absurd q (by decide)
    · simp only [sp_fc]
    · simp only [sp_fc]
  | .inner _ _ _ _ _, .leaf, .leaf => by unfold sp_tr; simp only [sp_fc]; decide
  | .inner _ _ _ _ _, .leaf, .inner _ _ _ _ _ => by
    refine ⟨fun q => ?_, fun q => ?_, fun q => ?_⟩ <;> (simp only [sp_fc] at q; exact absurd q (by decide))
  | .inner _ _ _ _ _, .inner _ _ _ _ _, .leaf => by
    refine ⟨fun _ => ?_, fun q => ?_, fun q => ?_⟩
    · simp only [sp_fc]
    · simp only [sp_fc] at q
      exact absurd q (by decide)
    · rw [q]
      simp only [sp_fc]
  | .inner _ b _ c r, .inner _ b' _ c' r', .inner _ b'' _ c'' r'' => by
    simp only [sp_fc]
    exact sp_tr_or (sp_nc_tr _ _ _) (sp_tr_or (sp_bc_tr _ _ _) (sp_tr_or (sp_tr_or (sp_ic_tr _ _ _) (sp_tr_or (sp_bc_tr _ _ _) (sp_fc_tr c c' c''))) (sp_fc_tr r r' r'')))
theorem sp_fc_neg : ∀ a b : sp_F, sp_fc b a = -sp_fc a b
  | .leaf, .leaf => by simp only [sp_fc]; decide
  | .leaf, .inner _ _ _ _ _ => by simp only [sp_fc]; decide
  | .inner _ _ _ _ _, .leaf => by simp only [sp_fc]
  | .inner _ b _ c r, .inner _ b' _ c' r' => by
    simp only [sp_fc]
    rw [sp_nc_neg (sp_cls b.1) (sp_cls b'.1), sp_bc_neg b.2.1 b'.2.1, sp_ic_neg b.2.2.1 b'.2.2.1, sp_bc_neg b.2.2.2 b'.2.2.2, sp_fc_neg c c', sp_fc_neg r r', sp_or_neg, sp_or_neg, sp_or_neg, sp_or_neg, sp_or_neg]
theorem sp_vc_tr (u v w : sp_V) : sp_tr (sp_vc u v) (sp_vc v w) (sp_vc u w) := sp_tr_or (sp_nc_tr _ _ _) (sp_tr_or (sp_ic_tr _ _ _) (sp_tr_or (sp_bc_tr _ _ _) (sp_fc_tr _ _ _)))
theorem sp_vc_neg (v w : sp_V) : sp_vc w v = -sp_vc v w := by
  unfold sp_vc
  rw [sp_nc_neg (sp_cls v.1.1), sp_ic_neg v.1.2.2.1, sp_bc_neg v.1.2.2.2, sp_fc_neg v.2, sp_or_neg, sp_or_neg, sp_or_neg]
end
section
/-! bytes and numbers -/
/-- an array of bytes that holds a list -/
def bya (h : Nat → Option am_C) (a : Nat) (l : List Nat) : Prop := l.length < 65536 ∧ (∀ x ∈ l, x < 256) ∧ ∃ f : Nat → Int32, h a = some (.inl (1, l.length, .inl f)) ∧ ∀ i, i < l.length → f i = sb_b (l.getD i 0)
theorem sb_inj : ∀ x, x < 256 → ∀ y, y < 256 → sb_b x = sb_b y → x = y := by
  intro x hx y hy h
  have h1 := (sb_byte x hx).1
  have h2 := (sb_byte y hy).1
  rw [h, h2] at h1
  exact ((nI_eq (by omega) (by omega)).mp h1).symm
theorem bya_lt {l : List Nat} (h : ∀ x ∈ l, x < 256) {i : Nat} (hi : i < l.length) : l.getD i 0 < 256 := by
  rw [List.getD_eq_getElem?_getD, List.getElem?_eq_getElem hi]
  exact h _ (List.getElem_mem hi)
theorem drop_getD {l : List Nat} {i : Nat} (hi : i < l.length) : l.drop i = l.getD i 0 :: l.drop (i + 1) := by
  rw [List.getD_eq_getElem?_getD, List.getElem?_eq_getElem hi]
  exact List.drop_eq_getElem_cons hi
theorem sp_bc_end {l l' : List Nat} {i : Nat} (h1 : i ≤ l.length) (h2 : i ≤ l'.length) (h : i = l.length ∨ i = l'.length) : sp_bc (l.drop i) (l'.drop i) = sp_nc l.length l'.length := by
  unfold sp_nc
  by_cases e : l.length < l'.length
  · have hi : i = l.length := by omega
    subst hi
    rw [List.drop_length, if_pos e, drop_getD e]
    rfl
  · by_cases e2 : l.length = l'.length
    · have hi : i = l.length := by omega
      subst hi
      rw [List.drop_length, if_neg e, if_pos e2, e2, List.drop_length]
      rfl
    · have hi : i = l'.length := by omega
      subst hi
      rw [List.drop_length, if_neg e, if_neg e2, drop_getD (show l'.length < l.length by omega)]
      rfl
section P20
variable {g : Nat × Nat} {d : Nat} {σ : am_H} {Q : Option Value → am_H → Prop}
/-- Integer.compare -/
theorem c_icmp (x z : Int32) (h : Q (some (.int (if x < z then -1 else if x = z then 0 else 1))) σ) : AW g d 103 (0, [some (.int x), some (.int z)], []) σ Q := by
  refine aw_run 2 (F' := (2, [some (.int (x)), some (.int (z))], [.int (z), .int (x)])) rfl ?_
  refine aw_cge rfl (fun h1 => ?_) (fun h1 => ?_)
  · refine aw_run 2 (F' := (11, [some (.int (x)), some (.int (z))], [.int (z), .int (x)])) rfl ?_
    rw [if_neg (Int32.not_lt.mpr h1)] at h
    refine aw_cne rfl (fun h2 => ?_) (fun h2 => ?_)
    · refine aw_run 1 (F' := (19, [some (.int (x)), some (.int (z))], [.int (1)])) rfl ?_
      rw [if_neg h2] at h
      exact aw_iret rfl ⟨_, rfl, rfl⟩ h
    · refine aw_run 2 (F' := (19, [some (.int (x)), some (.int (z))], [.int (0)])) rfl ?_
      rw [if_pos (Decidable.of_not_not h2)] at h
      exact aw_iret rfl ⟨_, rfl, rfl⟩ h
  · refine aw_run 2 (F' := (19, [some (.int (x)), some (.int (z))], [.int ((-1))])) rfl ?_
    rw [if_pos (Int32.not_le.mp h1)] at h
    exact aw_iret rfl ⟨_, rfl, rfl⟩ h
theorem c_icmpN {a b : Nat} (ha : a < 2 ^ 31) (hb : b < 2 ^ 31) (h : Q (some (.int (sp_nc a b))) σ) : AW g d 103 (0, [some (.int (nI a)), some (.int (nI b))], []) σ Q := by
  refine c_icmp _ _ ?_
  have e : (if nI a < nI b then (-1 : Int32) else if nI a = nI b then 0 else 1) = sp_nc a b := by
    unfold sp_nc
    simp only [nI_ltI ha hb, nI_eq ha hb]
  rw [e]
  exact h
/-- Order.ofBytes -/
theorem c_ofBytesL {a b : Nat} {l l' : List Nat} (hl : bya σ.1 a l) (hl' : bya σ.1 b l') : ∀ (k i : Nat), l.length - i < k → i ≤ l.length → i ≤ l'.length → Q (some (.int (sp_bc (l.drop i) (l'.drop i)))) σ → AW g (d + 1) 26 (2, [some (.ref a), some (.ref b), some (.int (nI i))], []) σ Q := by
  obtain ⟨n1, n2, f, ha, hf⟩ := hl
  obtain ⟨m1, m2, f2, hb, hf2⟩ := hl'
  intro k
  induction k with
  | zero => intro i hk; omega
  | succ k ih =>
    intro i hk hi hi' hQ
    have fin : (i = l.length ∨ i = l'.length) → AW g (d + 1) 26 (47, [some (.ref a), some (.ref b), some (.int (nI i))], []) σ Q := by
      intro he
      refine aw_run 1 (F' := (48, [some (.ref (a)), some (.ref (b)), some (.int (nI i))], [.ref (a)])) rfl ?_
      refine aw_len rfl ha (by decide) ?_
      refine aw_run 1 (F' := (50, [some (.ref (a)), some (.ref (b)), some (.int (nI i))], [.ref (b), .int (nI l.length)])) rfl ?_
      refine aw_len rfl hb (by decide) ?_
      refine aw_s [.int (nI l.length), .int (nI l'.length)] [] rfl ⟨by decide, by decide⟩ rfl rfl (Nat.le_of_ble_eq_true rfl) (Nat.le_of_ble_eq_true rfl) ?_
      refine c_icmpN (by omega) (by omega) ?_
      rw [sp_bc_end hi hi' he] at hQ
      exact aw_iret rfl ⟨_, rfl, rfl⟩ hQ
    refine aw_run 2 (F' := (4, [some (.ref (a)), some (.ref (b)), some (.int (nI i))], [.ref (a), .int (nI i)])) rfl ?_
    refine aw_len rfl ha (by decide) ?_
    refine aw_cge rfl (fun h1 => ?_) (fun h1 => ?_)
    · have h1' := (nI_leI (by omega) (by omega)).mp h1
      exact fin (Or.inl (by omega))
    · have h1' : ¬ l.length ≤ i := fun q => h1 ((nI_leI (by omega) (by omega)).mpr q)
      refine aw_run 2 (F' := (10, [some (.ref (a)), some (.ref (b)), some (.int (nI i))], [.ref (b), .int (nI i)])) rfl ?_
      refine aw_len rfl hb (by decide) ?_
      refine aw_cge rfl (fun h2 => ?_) (fun h2 => ?_)
      · have h2' := (nI_leI (by omega) (by omega)).mp h2
        exact fin (Or.inr (by omega))
      · have h2' : ¬ l'.length ≤ i := fun q => h2 ((nI_leI (by omega) (by omega)).mpr q)
        have hx := bya_lt n2 (show i < l.length by omega)
        have hy := bya_lt m2 (show i < l'.length by omega)
        have e1 : f (nI i).toNatClampNeg = sb_b (l.getD i 0) := by rw [nI_clamp (by omega), hf i (by omega)]
        have e2 : f2 (nI i).toNatClampNeg = sb_b (l'.getD i 0) := by rw [nI_clamp (by omega), hf2 i (by omega)]
        rw [drop_getD (show i < l.length by omega), drop_getD (show i < l'.length by omega)] at hQ
        simp only [sp_bc] at hQ
        refine aw_run 2 (F' := (16, [some (.ref (a)), some (.ref (b)), some (.int (nI i))], [.int (nI i), .ref (a)])) rfl ?_
        refine aw_bald rfl ha (vp_in_nI (by omega) (by omega)) ?_
        refine aw_run 2 (F' := (19, [some (.ref (a)), some (.ref (b)), some (.int (nI i))], [.int (nI i), .ref (b), .int (f (Int32.toNatClampNeg (nI i)))])) rfl ?_
        refine aw_bald rfl hb (vp_in_nI (by omega) (by omega)) ?_
        refine aw_ceq rfl (fun h3 => ?_) (fun h3 => ?_)
        · rw [e1, e2] at h3
          have h3' := sb_inj _ hx _ hy h3
          refine aw_run 2 (F' := (2, [some (.ref (a)), some (.ref (b)), some (.int ((nI i) + 1))], [])) rfl ?_
          rw [nI_1]
          refine ih (i + 1) (by omega) (by omega) (by omega) ?_
          rw [h3', show sp_nc (l'.getD i 0) (l'.getD i 0) = 0 by simp [sp_nc], sp_or_0] at hQ
          exact hQ
        · have hne : l.getD i 0 ≠ l'.getD i 0 := by
            intro q
            apply h3
            rw [e1, e2, q]
          refine aw_run 2 (F' := (25, [some (.ref (a)), some (.ref (b)), some (.int (nI i))], [.int (nI i), .ref (a)])) rfl ?_
          refine aw_bald rfl ha (vp_in_nI (by omega) (by omega)) ?_
          refine aw_run 4 (F' := (32, [some (.ref (a)), some (.ref (b)), some (.int (nI i))], [.int (nI i), .ref (b), .int ((f (Int32.toNatClampNeg (nI i))) &&& 255)])) rfl ?_
          refine aw_bald rfl hb (vp_in_nI (by omega) (by omega)) ?_
          refine aw_run 2 (F' := (37, [some (.ref (a)), some (.ref (b)), some (.int (nI i))], [.int ((f2 (Int32.toNatClampNeg (nI i))) &&& 255), .int ((f (Int32.toNatClampNeg (nI i))) &&& 255)])) rfl ?_
          rw [e1, e2, (sb_byte _ hx).1, (sb_byte _ hy).1]
          refine aw_s [.int (nI (l.getD i 0)), .int (nI (l'.getD i 0))] [] rfl ⟨by decide, by decide⟩ rfl rfl (Nat.le_of_ble_eq_true rfl) (Nat.le_of_ble_eq_true rfl) ?_
          refine c_icmpN (by omega) (by omega) ?_
          have hn : sp_nc (l.getD i 0) (l'.getD i 0) ≠ 0 := by
            unfold sp_nc
            by_cases q : l.getD i 0 < l'.getD i 0
            · rw [if_pos q]; decide
            · rw [if_neg q, if_neg hne]; decide
          rw [sp_or_n hn] at hQ
          exact aw_iret rfl ⟨_, rfl, rfl⟩ hQ
theorem c_ofBytes {a b : Nat} {l l' : List Nat} (hl : bya σ.1 a l) (hl' : bya σ.1 b l') (hQ : Q (some (.int (sp_bc l l'))) σ) : AW g (d + 1) 26 (0, [some (.ref a), some (.ref b), none], []) σ Q := by
  refine aw_run 2 (F' := (2, [some (.ref (a)), some (.ref (b)), some (.int (nI 0))], [])) rfl ?_
  exact c_ofBytesL hl hl' _ 0 (Nat.lt_succ_self _) (Nat.zero_le _) (Nat.zero_le _) hQ
end P20
end
section
/-! values in the heap -/
def kd (k : Nat) : Prop := k = 0 ∨ k = 2 ∨ k = 3 ∨ k = 4 ∨ k = 8 ∨ k = 10 ∨ k = 16 ∨ k = 18
def sp_len : sp_F → Nat
  | .leaf => 0
  | .inner _ _ _ _ r => sp_len r + 1
def sp_hgt : sp_F → Nat
  | .leaf => 0
  | .inner _ _ _ c r => max (sp_hgt c + 1) (sp_hgt r)
/-- a value's cell, with the cells of its bytes -/
def nd (h : Nat → Option am_C) (a : Nat) (b : sp_B) (cnt : Nat) (fi la nx : Option Nat) : Prop := kd b.1 ∧ cnt < 65536 ∧ ∃ (na ba : Nat) (num : Int64), h a = some (.inr (1, [.int (nI b.1), .ref na, .long num, .ref ba, .int (nI cnt), va_rf fi, va_rf la, va_rf nx])) ∧ num.toInt = b.2.2.1 ∧ bya h na b.2.1 ∧ bya h ba b.2.2.2
/-- elements, from one on -/
def fr (h : Nat → Option am_C) : sp_F → Option Nat → Prop
  | .leaf, o => o = none
  | .inner _ b _ c r, o => ∃ (a : Nat) (fi la nx : Option Nat), o = some a ∧ nd h a b (b.2.2.2.length + sp_len c) fi la nx ∧ fr h c fi ∧ fr h r nx
def vl (h : Nat → Option am_C) (a : Nat) (v : sp_V) : Prop := ∃ (fi la nx : Option Nat), nd h a v.1 (v.1.2.2.2.length + sp_len v.2) fi la nx ∧ fr h v.2 fi
theorem sp_cls_lt (k : Nat) : sp_cls k < 2 ^ 31 := by
  unfold sp_cls
  repeat' split
  all_goals decide
section P21
variable {g : Nat × Nat} {d : Nat} {σ : am_H} {Q : Option Value → am_H → Prop}
/-- Long.compare -/
theorem c_lcmp (x z : Int64) (h : Q (some (.int (sp_ic x.toInt z.toInt))) σ) : AW g d 104 (0, [some (.long x), none, some (.long z), none], []) σ Q := by
  have key : (lg_cmp x z = -1 ∧ sp_ic x.toInt z.toInt = -1) ∨ (lg_cmp x z = 0 ∧ sp_ic x.toInt z.toInt = 0) ∨ (lg_cmp x z = 1 ∧ sp_ic x.toInt z.toInt = 1) := by
    unfold lg_cmp sp_ic
    by_cases h1 : x.toInt < z.toInt
    · left
      have n1 : ¬ x > z := fun q => by have := Int64.lt_iff_toInt_lt.mp q; omega
      have n2 : ¬ x = z := fun q => by rw [q] at h1; omega
      rw [if_neg n1, if_neg n2, if_pos h1]
      exact ⟨rfl, rfl⟩
    · by_cases h2 : x.toInt = z.toInt
      · right; left
        have e : x = z := Int64.toInt_inj.mp h2
        subst e
        have n1 : ¬ x > x := fun q => by have := Int64.lt_iff_toInt_lt.mp q; omega
        rw [if_neg n1, if_pos rfl, if_neg h1, if_pos rfl]
        exact ⟨rfl, rfl⟩
      · right; right
        have n1 : x > z := Int64.lt_iff_toInt_lt.mpr (by omega)
        rw [if_pos n1, if_neg h1, if_neg h2]
        exact ⟨rfl, rfl⟩
  refine aw_run 3 (F' := (3, [some (.long x), none, some (.long z), none], [.int (lg_cmp x z)])) rfl ?_
  rcases key with ⟨e1, e2⟩ | ⟨e1, e2⟩ | ⟨e1, e2⟩ <;> rw [e2] at h <;> refine aw_zge rfl (fun h1 => ?_) (fun h1 => ?_) <;> rw [e1] at h1
  · exact absurd h1 (by decide)
  · refine aw_run 2 (F' := (21, [some (.long x), none, some (.long z), none], [.int (-1)])) rfl ?_
    exact aw_iret rfl ⟨_, rfl, rfl⟩ h
  · refine aw_run 3 (F' := (13, [some (.long x), none, some (.long z), none], [.int (lg_cmp x z)])) rfl ?_
    refine aw_zne rfl (fun h2 => ?_) (fun h2 => ?_)
    · exact absurd e1 h2
    · refine aw_run 2 (F' := (21, [some (.long x), none, some (.long z), none], [.int 0])) rfl ?_
      exact aw_iret rfl ⟨_, rfl, rfl⟩ h
  · exact absurd (by decide) h1
  · refine aw_run 3 (F' := (13, [some (.long x), none, some (.long z), none], [.int (lg_cmp x z)])) rfl ?_
    refine aw_zne rfl (fun h2 => ?_) (fun h2 => ?_)
    · refine aw_run 1 (F' := (21, [some (.long x), none, some (.long z), none], [.int 1])) rfl ?_
      exact aw_iret rfl ⟨_, rfl, rfl⟩ h
    · exact absurd (by rw [e1]; decide) h2
  · exact absurd (by decide) h1
/-- Value.rank -/
theorem c_rank {a : Nat} {b : sp_B} {cnt : Nat} {fi la nx : Option Nat} (hn : nd σ.1 a b cnt fi la nx) (h : Q (some (.int (nI (sp_cls b.1)))) σ) : AW g d 33 (0, [some (.ref a)], []) σ Q := by
  obtain ⟨hk, -, na, ba, num, ha, -⟩ := hn
  refine aw_run 1 (F' := (1, [some (.ref (a))], [.ref (a)])) rfl ?_
  refine aw_get rfl ha rfl ?_
  rcases hk with e | e | e | e | e | e | e | e <;> rw [e] at h ⊢
  · refine aw_tsw 101 rfl (Or.inl ⟨by decide, by decide⟩) ?_
    refine aw_run 1 (F' := (102, [some (.ref (a))], [.int 0])) rfl ?_
    exact aw_iret rfl ⟨_, rfl, rfl⟩ h
  · refine aw_tsw 92 rfl (Or.inr ⟨by decide, by decide, _, rfl, by decide⟩) ?_
    refine aw_run 1 (F' := (93, [some (.ref (a))], [.int 3])) rfl ?_
    exact aw_iret rfl ⟨_, rfl, rfl⟩ h
  · refine aw_tsw 94 rfl (Or.inr ⟨by decide, by decide, _, rfl, by decide⟩) ?_
    refine aw_run 1 (F' := (95, [some (.ref (a))], [.int 4])) rfl ?_
    exact aw_iret rfl ⟨_, rfl, rfl⟩ h
  · refine aw_tsw 96 rfl (Or.inr ⟨by decide, by decide, _, rfl, by decide⟩) ?_
    refine aw_run 1 (F' := (97, [some (.ref (a))], [.int 5])) rfl ?_
    exact aw_iret rfl ⟨_, rfl, rfl⟩ h
  · refine aw_tsw 98 rfl (Or.inr ⟨by decide, by decide, _, rfl, by decide⟩) ?_
    refine aw_run 1 (F' := (100, [some (.ref (a))], [.int 6])) rfl ?_
    exact aw_iret rfl ⟨_, rfl, rfl⟩ h
  · refine aw_tsw 88 rfl (Or.inr ⟨by decide, by decide, _, rfl, by decide⟩) ?_
    refine aw_run 1 (F' := (89, [some (.ref (a))], [.int 1])) rfl ?_
    exact aw_iret rfl ⟨_, rfl, rfl⟩ h
  · refine aw_tsw 90 rfl (Or.inr ⟨by decide, by decide, _, rfl, by decide⟩) ?_
    refine aw_run 1 (F' := (91, [some (.ref (a))], [.int 2])) rfl ?_
    exact aw_iret rfl ⟨_, rfl, rfl⟩ h
  · refine aw_tsw 90 rfl (Or.inr ⟨by decide, by decide, _, rfl, by decide⟩) ?_
    refine aw_run 1 (F' := (91, [some (.ref (a))], [.int 2])) rfl ?_
    exact aw_iret rfl ⟨_, rfl, rfl⟩ h
end P21
end
section
/-! the order of values -/
def ordL (c : sp_F) : Prop := ∀ (g : Nat × Nat) (d : Nat) (σ : am_H) (Q : Option Value → am_H → Prop) (a a2 : Nat) (b b2 : sp_B) (cnt cnt2 : Nat) (fi la nx fi2 la2 nx2 : Option Nat) (c' : sp_F) (o o2 : Option Nat) (k dep : Nat) (x5 : Option Value),
  nd σ.1 a b cnt fi la nx → nd σ.1 a2 b2 cnt2 fi2 la2 nx2 → fr σ.1 c o → fr σ.1 c' o2 → cnt = k + sp_len c → cnt2 = k + sp_len c' → dep + sp_hgt c ≤ 17 → 3 * sp_hgt c + 3 ≤ d → Q (some (.int (sp_fc c c'))) σ →
  AW g d 34 (11, [some (.ref a), some (.ref a2), some (.int (nI dep)), some (va_rf o), some (va_rf o2), x5], []) σ Q
section P22
variable {g : Nat × Nat} {d : Nat} {σ : am_H} {Q : Option Value → am_H → Prop}
/-- the end of ofElements: the counts -/
theorem c_ofEend {a a2 : Nat} {b b2 : sp_B} {cnt cnt2 : Nat} {fi la nx fi2 la2 nx2 : Option Nat} {L3 L4 L5 : Option Value} {dp : Option Value} (h1 : nd σ.1 a b cnt fi la nx) (h2 : nd σ.1 a2 b2 cnt2 fi2 la2 nx2) (hQ : Q (some (.int (sp_nc cnt cnt2))) σ) : AW g (d + 1) 34 (92, [some (.ref a), some (.ref a2), dp, L3, L4, L5], []) σ Q := by
  obtain ⟨-, n1, na, ba, num, ha, -⟩ := h1
  obtain ⟨-, n2, na2, ba2, num2, ha2, -⟩ := h2
  refine aw_run 1 (F' := (93, [some (.ref a), some (.ref a2), dp, L3, L4, L5], [.ref a])) rfl ?_
  refine aw_get rfl ha rfl ?_
  refine aw_run 1 (F' := (97, [some (.ref a), some (.ref a2), dp, L3, L4, L5], [.ref a2, .int (nI cnt)])) rfl ?_
  refine aw_get rfl ha2 rfl ?_
  refine aw_s [.int (nI cnt), .int (nI cnt2)] [] rfl ⟨by decide, by decide⟩ rfl rfl (Nat.le_of_ble_eq_true rfl) (Nat.le_of_ble_eq_true rfl) ?_
  refine c_icmpN (by omega) (by omega) ?_
  exact aw_iret rfl ⟨_, rfl, rfl⟩ hQ
/-- ofElements, entered -/
theorem c_ofElements {c c' : sp_F} (hL : ordL c) {a a2 : Nat} {b b2 : sp_B} {cnt cnt2 : Nat} {fi la nx fi2 la2 nx2 : Option Nat} {k dep : Nat} (h1 : nd σ.1 a b cnt fi la nx) (h2 : nd σ.1 a2 b2 cnt2 fi2 la2 nx2) (hc : fr σ.1 c fi) (hc2 : fr σ.1 c' fi2) (e1 : cnt = k + sp_len c) (e2 : cnt2 = k + sp_len c') (hdep : dep + sp_hgt c ≤ 17) (hd : 3 * sp_hgt c + 3 ≤ d) (hQ : Q (some (.int (sp_fc c c'))) σ) : AW g d 34 (0, [some (.ref a), some (.ref a2), some (.int (nI dep)), none, none, none], []) σ Q := by
  have key := hL g d σ Q a a2 b b2 cnt cnt2 fi la nx fi2 la2 nx2 c' fi fi2 k dep none h1 h2 hc hc2 e1 e2 hdep hd hQ
  obtain ⟨-, n1, na, ba, num, ha, -⟩ := h1
  obtain ⟨-, n2, na2, ba2, num2, ha2, -⟩ := h2
  refine aw_run 1 (F' := (1, [some (.ref (a)), some (.ref (a2)), some (.int (nI dep)), none, none, none], [.ref (a)])) rfl ?_
  refine aw_get rfl ha rfl ?_
  rcases fi with _ | x
  · refine aw_run 2 (F' := (6, [some (.ref (a)), some (.ref (a2)), some (.int (nI dep)), some .null, none, none], [.ref (a2)])) rfl ?_
    refine aw_get rfl ha2 rfl ?_
    rcases fi2 with _ | x2
    · refine aw_run 1 (F' := (11, [some (.ref (a)), some (.ref (a2)), some (.int (nI dep)), some .null, some .null, none], [])) rfl ?_
      exact key
    · refine aw_run 1 (F' := (11, [some (.ref (a)), some (.ref (a2)), some (.int (nI dep)), some .null, some (.ref x2), none], [])) rfl ?_
      exact key
  · refine aw_run 2 (F' := (6, [some (.ref (a)), some (.ref (a2)), some (.int (nI dep)), some (.ref x), none, none], [.ref (a2)])) rfl ?_
    refine aw_get rfl ha2 rfl ?_
    rcases fi2 with _ | x2
    · refine aw_run 1 (F' := (11, [some (.ref (a)), some (.ref (a2)), some (.int (nI dep)), some (.ref x), some .null, none], [])) rfl ?_
      exact key
    · refine aw_run 1 (F' := (11, [some (.ref (a)), some (.ref (a2)), some (.int (nI dep)), some (.ref x), some (.ref x2), none], [])) rfl ?_
      exact key
theorem sp_bc_0len : ∀ {l l' : List Nat}, sp_bc l l' = 0 → l.length = l'.length
  | [], [], _ => rfl
  | [], _ :: _, h => by simp only [sp_bc] at h; exact absurd h (by decide)
  | _ :: _, [], h => by simp only [sp_bc] at h; exact absurd h (by decide)
  | a :: x, b :: y, h => by
    simp only [sp_bc] at h
    by_cases q : sp_nc a b = 0
    · rw [q, sp_or_0] at h
      simp [sp_bc_0len h]
    · rw [sp_or_n q] at h
      exact absurd h q
/-- ofValues, where its elements' loop is known -/
theorem c_ofValuesL {c c' : sp_F} (hL : ordL c) {a a2 : Nat} {b b2 : sp_B} {cnt cnt2 : Nat} {fi la nx fi2 la2 nx2 : Option Nat} {dep : Nat} (h1 : nd σ.1 a b cnt fi la nx) (h2 : nd σ.1 a2 b2 cnt2 fi2 la2 nx2) (hc : fr σ.1 c fi) (hc2 : fr σ.1 c' fi2) (e1 : cnt = b.2.2.2.length + sp_len c) (e2 : cnt2 = b2.2.2.2.length + sp_len c') (hdep : dep + sp_hgt c ≤ 17) (hd : 3 * sp_hgt c + 5 ≤ d) (hQ : Q (some (.int (sp_vc (b, c) (b2, c')))) σ) : AW g d 32 (0, [some (.ref a), some (.ref a2), some (.int (nI dep)), none], []) σ Q := by
  obtain ⟨d, rfl⟩ : ∃ d', d = d' + 2 := ⟨d - 2, by omega⟩
  have h1' := h1
  have h2' := h2
  obtain ⟨k1, n1, na, ba, num, ha, hnum, hna, hba⟩ := h1'
  obtain ⟨k2, n2, na2, ba2, num2, ha2, hnum2, hna2, hba2⟩ := h2'
  refine aw_run 1 (F' := (1, [some (.ref (a)), some (.ref (a2)), some (.int (nI dep)), none], [.ref (a)])) rfl ?_
  refine aw_ifnull_r rfl ?_
  refine aw_run 1 (F' := (5, [some (.ref (a)), some (.ref (a2)), some (.int (nI dep)), none], [.ref (a2)])) rfl ?_
  refine aw_ifnull_r rfl ?_
  refine aw_run 2 (F' := (11, [some (.ref (a)), some (.ref (a2)), some (.int (nI dep)), none], [.int (17), .int (nI dep)])) rfl ?_
  refine aw_cle rfl (fun _ => ?_) (fun hq => absurd ((nI_leI (b := 17) (by omega) (by omega)).mpr (by omega)) hq)
  have fin : ∀ r : Int32, Q (some (.int r)) σ → r ≠ 0 → AW g (d + 2) 32 (60, [some (.ref (a)), some (.ref (a2)), some (.int (nI dep)), some (.int r)], []) σ Q := by
    intro r hr hr0
    refine aw_run 1 (F' := (61, [some (.ref (a)), some (.ref (a2)), some (.int (nI dep)), some (.int (r))], [.int (r)])) rfl ?_
    refine aw_zne rfl (fun h4 => ?_) (fun h4 => absurd hr0 h4)
    refine aw_run 1 (F' := (74, [some (.ref (a)), some (.ref (a2)), some (.int (nI dep)), some (.int (r))], [.int (r)])) rfl ?_
    exact aw_iret rfl ⟨_, rfl, rfl⟩ hr
  have fin2 : ∀ r : Int32, Q (some (.int r)) σ → r ≠ 0 → AW g (d + 2) 32 (44, [some (.ref (a)), some (.ref (a2)), some (.int (nI dep)), some (.int r)], []) σ Q := by
    intro r hr hr0
    refine aw_run 1 (F' := (45, [some (.ref (a)), some (.ref (a2)), some (.int (nI dep)), some (.int (r))], [.int (r)])) rfl ?_
    refine aw_zne rfl (fun h4 => ?_) (fun h4 => absurd hr0 h4)
    exact fin r hr hr0
  refine aw_run 1 (F' := (17, [some (.ref (a)), some (.ref (a2)), some (.int (nI dep)), none], [.ref (a)])) rfl ?_
  refine aw_v [.ref (a)] [] rfl (by decide) rfl ha rfl rfl (Nat.le_of_ble_eq_true rfl) (Nat.le_of_ble_eq_true rfl) ?_
  refine c_rank h1 ?_
  refine aw_run 1 (F' := (21, [some (.ref (a)), some (.ref (a2)), some (.int (nI dep)), none], [.ref (a2), .int (nI (sp_cls b.1))])) rfl ?_
  refine aw_v [.ref (a2)] [.int (nI (sp_cls b.1))] rfl (by decide) rfl ha2 rfl rfl (Nat.le_of_ble_eq_true rfl) (Nat.le_of_ble_eq_true rfl) ?_
  refine c_rank h2 ?_
  refine aw_s [.int (nI (sp_cls b.1)), .int (nI (sp_cls b2.1))] [] rfl ⟨by decide, by decide⟩ rfl rfl (Nat.le_of_ble_eq_true rfl) (Nat.le_of_ble_eq_true rfl) ?_
  refine c_icmpN (sp_cls_lt _) (sp_cls_lt _) ?_
  refine aw_run 2 (F' := (29, [some (.ref (a)), some (.ref (a2)), some (.int (nI dep)), some (.int (sp_nc (sp_cls b.1) (sp_cls b2.1)))], [.int (sp_nc (sp_cls b.1) (sp_cls b2.1))])) rfl ?_
  unfold sp_vc at hQ
  dsimp only at hQ
  generalize sp_nc (sp_cls b.1) (sp_cls b2.1) = r0 at hQ ⊢
  refine aw_zne rfl (fun q0 => ?_) (fun q0 => ?_)
  · rw [sp_or_n q0] at hQ
    exact fin2 r0 hQ q0
  · have q0 : r0 = 0 := Decidable.of_not_not q0
    subst q0
    rw [sp_or_0] at hQ
    refine aw_run 1 (F' := (33, [some (.ref (a)), some (.ref (a2)), some (.int (nI dep)), some (.int (0))], [.ref (a)])) rfl ?_
    refine aw_get rfl ha rfl ?_
    refine aw_run 1 (F' := (37, [some (.ref (a)), some (.ref (a2)), some (.int (nI dep)), some (.int (0))], [.ref (a2), .long (num)])) rfl ?_
    refine aw_get rfl ha2 rfl ?_
    refine aw_s [.long (num), .long (num2)] [] rfl ⟨by decide, by decide⟩ rfl rfl (Nat.le_of_ble_eq_true rfl) (Nat.le_of_ble_eq_true rfl) ?_
    refine c_lcmp _ _ ?_
    rw [hnum, hnum2]
    refine aw_run 2 (F' := (45, [some (.ref (a)), some (.ref (a2)), some (.int (nI dep)), some (.int (sp_ic b.2.2.1 b2.2.2.1))], [.int (sp_ic b.2.2.1 b2.2.2.1)])) rfl ?_
    generalize sp_ic b.2.2.1 b2.2.2.1 = r1 at hQ ⊢
    refine aw_zne rfl (fun q1 => ?_) (fun q1 => ?_)
    · rw [sp_or_n q1] at hQ
      exact fin r1 hQ q1
    · have q1 : r1 = 0 := Decidable.of_not_not q1
      subst q1
      rw [sp_or_0] at hQ
      refine aw_run 1 (F' := (49, [some (.ref (a)), some (.ref (a2)), some (.int (nI dep)), some (.int (0))], [.ref (a)])) rfl ?_
      refine aw_get rfl ha rfl ?_
      refine aw_run 1 (F' := (53, [some (.ref (a)), some (.ref (a2)), some (.int (nI dep)), some (.int (0))], [.ref (a2), .ref (ba)])) rfl ?_
      refine aw_get rfl ha2 rfl ?_
      refine aw_s [.ref (ba), .ref (ba2)] [] rfl ⟨by decide, by decide⟩ rfl rfl (Nat.le_of_ble_eq_true rfl) (Nat.le_of_ble_eq_true rfl) ?_
      refine c_ofBytes hba hba2 ?_
      refine aw_run 2 (F' := (61, [some (.ref (a)), some (.ref (a2)), some (.int (nI dep)), some (.int (sp_bc b.2.2.2 b2.2.2.2))], [.int (sp_bc b.2.2.2 b2.2.2.2)])) rfl ?_
      have hln : sp_bc b.2.2.2 b2.2.2.2 = 0 → b.2.2.2.length = b2.2.2.2.length := sp_bc_0len
      generalize sp_bc b.2.2.2 b2.2.2.2 = r2 at hQ hln ⊢
      refine aw_zne rfl (fun q2 => ?_) (fun q2 => ?_)
      · rw [sp_or_n q2] at hQ
        refine aw_run 1 (F' := (74, [some (.ref (a)), some (.ref (a2)), some (.int (nI dep)), some (.int (r2))], [.int (r2)])) rfl ?_
        exact aw_iret rfl ⟨_, rfl, rfl⟩ hQ
      · have q2 : r2 = 0 := Decidable.of_not_not q2
        subst q2
        rw [sp_or_0] at hQ
        refine aw_run 3 (F' := (67, [some (.ref (a)), some (.ref (a2)), some (.int (nI dep)), some (.int (0))], [.int (nI dep), .ref (a2), .ref (a)])) rfl ?_
        refine aw_s [.ref (a), .ref (a2), .int (nI dep)] [] rfl ⟨by decide, by decide⟩ rfl rfl (Nat.le_of_ble_eq_true rfl) (Nat.le_of_ble_eq_true rfl) ?_
        refine c_ofElements hL h1 h2 hc hc2 e1 (by rw [e2, hln rfl]) hdep (by omega) ?_
        refine aw_run 1 (F' := (74, [some (.ref (a)), some (.ref (a2)), some (.int (nI dep)), some (.int (0))], [.int (sp_fc c c')])) rfl ?_
        exact aw_iret rfl ⟨_, rfl, rfl⟩ hQ
end P22
end
section
set_option maxHeartbeats 4000000 in
theorem ord_all : ∀ c : sp_F, ordL c := by
  intro c
  induction c with
  | leaf =>
    intro g d σ Q a a2 b b2 cnt cnt2 fi la nx fi2 la2 nx2 c' o o2 k dep x5 h1 h2 hc hc2 e1 e2 hdep hd hQ
    obtain ⟨d, rfl⟩ : ∃ d', d = d' + 1 := ⟨d - 1, by omega⟩
    have ho : o = none := hc
    subst ho
    refine aw_run 1 (F' := (12, [some (.ref a), some (.ref a2), some (.int (nI dep)), some .null, some (va_rf o2), x5], [.null])) rfl ?_
    refine aw_ifnull_n rfl ?_
    refine c_ofEend h1 h2 ?_
    have e : sp_nc cnt cnt2 = sp_fc .leaf c' := by
      cases c' with
      | leaf =>
        simp only [sp_len] at e1 e2
        simp [sp_fc, sp_nc, e1, e2]
      | inner s l v ch r =>
        simp only [sp_len] at e1 e2
        have hlt : cnt < cnt2 := by omega
        simp [sp_fc, sp_nc, hlt]
    rw [e]
    exact hQ
  | inner s1 l1 v1 ch r ihc ihr =>
    intro g d σ Q a a2 b b2 cnt cnt2 fi la nx fi2 la2 nx2 c' o o2 k dep x5 h1 h2 hc hc2 e1 e2 hdep hd hQ
    have hh1 : sp_hgt ch + 1 ≤ sp_hgt (.inner s1 l1 v1 ch r : sp_F) := Nat.le_max_left _ _
    have hh2 : sp_hgt r ≤ sp_hgt (.inner s1 l1 v1 ch r : sp_F) := Nat.le_max_right _ _
    obtain ⟨d, rfl⟩ : ∃ d', d = d' + 3 := ⟨d - 3, by omega⟩
    obtain ⟨p1, fi1, la1, nx1, ho, hn1, hf1, hr1⟩ := hc
    subst ho
    refine aw_run 1 (F' := (12, [some (.ref a), some (.ref a2), some (.int (nI dep)), some (.ref p1), some (va_rf o2), x5], [.ref p1])) rfl ?_
    refine aw_ifnull_r rfl ?_
    cases c' with
    | leaf =>
      have ho2 : o2 = none := hc2
      subst ho2
      refine aw_run 1 (F' := (17, [some (.ref a), some (.ref a2), some (.int (nI dep)), some (.ref p1), some .null, x5], [.null])) rfl ?_
      refine aw_ifnull_n rfl ?_
      refine c_ofEend h1 h2 ?_
      simp only [sp_len] at e1 e2
      have hlt : ¬ cnt < cnt2 := by omega
      have hne : ¬ cnt = cnt2 := by omega
      have e : sp_nc cnt cnt2 = 1 := by simp [sp_nc, hlt, hne]
      rw [e]
      exact hQ
    | inner s2 l2 v2 ch2 r2 =>
      obtain ⟨p2, fj1, lb1, ny1, ho2, hn2, hf2, hr2⟩ := hc2
      subst ho2
      have hn1' := hn1
      have hn2' := hn2
      obtain ⟨k1, m1, na, ba, num, ha, hnum, hna, hba⟩ := hn1'
      obtain ⟨k2, m2, na2, ba2, num2, ha2, hnum2, hna2, hba2⟩ := hn2'
      refine aw_run 1 (F' := (17, [some (.ref a), some (.ref a2), some (.int (nI dep)), some (.ref p1), some (.ref p2), x5], [.ref p2])) rfl ?_
      refine aw_ifnull_r rfl ?_
      have fin : ∀ q : Int32, Q (some (.int q)) σ → q ≠ 0 → AW g (d + 3) 34 (69, [some (.ref a), some (.ref a2), some (.int (nI dep)), some (.ref p1), some (.ref p2), some (.int q)], []) σ Q := by
        intro q hq hq0
        refine aw_run 1 (F' := (71, [some (.ref a), some (.ref a2), some (.int (nI dep)), some (.ref p1), some (.ref p2), some (.int q)], [.int q])) rfl ?_
        refine aw_zeq rfl (fun h4 => absurd h4 hq0) (fun h4 => ?_)
        refine aw_run 1 (F' := (76, [some (.ref a), some (.ref a2), some (.int (nI dep)), some (.ref p1), some (.ref p2), some (.int q)], [.int q])) rfl ?_
        exact aw_iret rfl ⟨_, rfl, rfl⟩ hq
      have fin2 : ∀ q : Int32, Q (some (.int q)) σ → q ≠ 0 → AW g (d + 3) 34 (53, [some (.ref a), some (.ref a2), some (.int (nI dep)), some (.ref p1), some (.ref p2), some (.int q)], []) σ Q := by
        intro q hq hq0
        refine aw_run 1 (F' := (55, [some (.ref a), some (.ref a2), some (.int (nI dep)), some (.ref p1), some (.ref p2), some (.int q)], [.int q])) rfl ?_
        refine aw_zne rfl (fun h4 => ?_) (fun h4 => absurd hq0 h4)
        exact fin q hq hq0
      refine aw_run 1 (F' := (21, [some (.ref a), some (.ref a2), some (.int (nI dep)), some (.ref p1), some (.ref p2), x5], [.ref p1])) rfl ?_
      refine aw_v [.ref p1] [] rfl (by decide) rfl ha rfl rfl (Nat.le_of_ble_eq_true rfl) (Nat.le_of_ble_eq_true rfl) ?_
      refine c_rank hn1 ?_
      refine aw_run 1 (F' := (26, [some (.ref a), some (.ref a2), some (.int (nI dep)), some (.ref p1), some (.ref p2), x5], [.ref p2, .int (nI (sp_cls l1.1))])) rfl ?_
      refine aw_v [.ref p2] [.int (nI (sp_cls l1.1))] rfl (by decide) rfl ha2 rfl rfl (Nat.le_of_ble_eq_true rfl) (Nat.le_of_ble_eq_true rfl) ?_
      refine c_rank hn2 ?_
      refine aw_s [.int (nI (sp_cls l1.1)), .int (nI (sp_cls l2.1))] [] rfl ⟨by decide, by decide⟩ rfl rfl (Nat.le_of_ble_eq_true rfl) (Nat.le_of_ble_eq_true rfl) ?_
      refine c_icmpN (sp_cls_lt _) (sp_cls_lt _) ?_
      refine aw_run 2 (F' := (36, [some (.ref a), some (.ref a2), some (.int (nI dep)), some (.ref p1), some (.ref p2), some (.int (sp_nc (sp_cls l1.1) (sp_cls l2.1)))], [.int (sp_nc (sp_cls l1.1) (sp_cls l2.1))])) rfl ?_
      simp only [sp_fc] at hQ
      have hvc : sp_nc (sp_cls l1.1) (sp_cls l2.1) = 0 → sp_vc (l1, ch) (l2, ch2) = sp_or (sp_ic l1.2.2.1 l2.2.2.1) (sp_or (sp_bc l1.2.2.2 l2.2.2.2) (sp_fc ch ch2)) := by
        intro q
        unfold sp_vc
        dsimp only
        rw [q, sp_or_0]
      rcases Decidable.em (sp_nc (sp_cls l1.1) (sp_cls l2.1) = 0) with q0 | q0
      · rw [← hvc q0, q0, sp_or_0] at hQ
        rw [q0]
        refine aw_zne rfl (fun h4 => absurd rfl h4) (fun _ => ?_)
        refine aw_run 1 (F' := (40, [some (.ref a), some (.ref a2), some (.int (nI dep)), some (.ref p1), some (.ref p2), some (.int 0)], [.ref p1])) rfl ?_
        refine aw_get rfl ha rfl ?_
        refine aw_run 1 (F' := (45, [some (.ref a), some (.ref a2), some (.int (nI dep)), some (.ref p1), some (.ref p2), some (.int 0)], [.ref p2, .ref na])) rfl ?_
        refine aw_get rfl ha2 rfl ?_
        refine aw_s [.ref na, .ref na2] [] rfl ⟨by decide, by decide⟩ rfl rfl (Nat.le_of_ble_eq_true rfl) (Nat.le_of_ble_eq_true rfl) ?_
        refine c_ofBytes hna hna2 ?_
        refine aw_run 2 (F' := (55, [some (.ref a), some (.ref a2), some (.int (nI dep)), some (.ref p1), some (.ref p2), some (.int (sp_bc l1.2.1 l2.2.1))], [.int (sp_bc l1.2.1 l2.2.1)])) rfl ?_
        generalize sp_bc l1.2.1 l2.2.1 = r1 at hQ ⊢
        refine aw_zne rfl (fun q1 => ?_) (fun q1 => ?_)
        · rw [sp_or_n q1] at hQ
          exact fin r1 hQ q1
        · have q1 : r1 = 0 := Decidable.of_not_not q1
          subst q1
          rw [sp_or_0] at hQ
          refine aw_run 5 (F' := (64, [some (.ref a), some (.ref a2), some (.int (nI dep)), some (.ref p1), some (.ref p2), some (.int 0)], [.int (nI dep + 1), .ref p2, .ref p1])) rfl ?_
          rw [nI_1]
          refine aw_s [.ref p1, .ref p2, .int (nI (dep + 1))] [] rfl ⟨by decide, by decide⟩ rfl rfl (Nat.le_of_ble_eq_true rfl) (Nat.le_of_ble_eq_true rfl) ?_
          refine c_ofValuesL ihc hn1 hn2 hf1 hf2 rfl rfl (by omega) (by omega) ?_
          refine aw_run 1 (F' := (69, [some (.ref a), some (.ref a2), some (.int (nI dep)), some (.ref p1), some (.ref p2), some (.int (sp_vc (l1, ch) (l2, ch2)))], [])) rfl ?_
          generalize sp_vc (l1, ch) (l2, ch2) = r2' at hQ ⊢
          rcases Decidable.em (r2' = 0) with q2 | q2
          · subst q2
            rw [sp_or_0] at hQ
            refine aw_run 1 (F' := (71, [some (.ref a), some (.ref a2), some (.int (nI dep)), some (.ref p1), some (.ref p2), some (.int 0)], [.int 0])) rfl ?_
            refine aw_zeq rfl (fun _ => ?_) (fun h4 => absurd rfl h4)
            refine aw_run 1 (F' := (78, [some (.ref a), some (.ref a2), some (.int (nI dep)), some (.ref p1), some (.ref p2), some (.int 0)], [.ref p1])) rfl ?_
            refine aw_get rfl ha rfl ?_
            simp only [sp_len] at e1 e2
            have key := ihr g (d + 3) σ Q a a2 b b2 cnt cnt2 fi la nx fi2 la2 nx2 r2 nx1 ny1 (k + 1) dep (some (.int 0)) h1 h2 hr1 hr2 (by omega) (by omega) (by omega) (by omega) hQ
            rcases nx1 with _ | x
            · refine aw_run 2 (F' := (84, [some (.ref a), some (.ref a2), some (.int (nI dep)), some .null, some (.ref p2), some (.int 0)], [.ref p2])) rfl ?_
              refine aw_get rfl ha2 rfl ?_
              rcases ny1 with _ | x2
              · refine aw_run 2 (F' := (11, [some (.ref a), some (.ref a2), some (.int (nI dep)), some .null, some .null, some (.int 0)], [])) rfl ?_
                exact key
              · refine aw_run 2 (F' := (11, [some (.ref a), some (.ref a2), some (.int (nI dep)), some .null, some (.ref x2), some (.int 0)], [])) rfl ?_
                exact key
            · refine aw_run 2 (F' := (84, [some (.ref a), some (.ref a2), some (.int (nI dep)), some (.ref x), some (.ref p2), some (.int 0)], [.ref p2])) rfl ?_
              refine aw_get rfl ha2 rfl ?_
              rcases ny1 with _ | x2
              · refine aw_run 2 (F' := (11, [some (.ref a), some (.ref a2), some (.int (nI dep)), some (.ref x), some .null, some (.int 0)], [])) rfl ?_
                exact key
              · refine aw_run 2 (F' := (11, [some (.ref a), some (.ref a2), some (.int (nI dep)), some (.ref x), some (.ref x2), some (.int 0)], [])) rfl ?_
                exact key
          · rw [sp_or_n q2] at hQ
            exact fin r2' hQ q2
      · rw [sp_or_n q0] at hQ
        refine aw_zne rfl (fun _ => ?_) (fun h4 => absurd q0 h4)
        exact fin2 _ hQ q0
/-- Order.ofValues of two values in the heap -/
theorem c_ofValues {g : Nat × Nat} {d : Nat} {σ : am_H} {Q : Option Value → am_H → Prop} {a a2 : Nat} {v w : sp_V} {dep : Nat} (h1 : vl σ.1 a v) (h2 : vl σ.1 a2 w) (hdep : dep + sp_hgt v.2 ≤ 17) (hd : 3 * sp_hgt v.2 + 5 ≤ d) (hQ : Q (some (.int (sp_vc v w))) σ) : AW g d 32 (0, [some (.ref a), some (.ref a2), some (.int (nI dep)), none], []) σ Q := by
  obtain ⟨fi, la, nx, n1, f1⟩ := h1
  obtain ⟨fi2, la2, nx2, n2, f2⟩ := h2
  exact c_ofValuesL (ord_all v.2) n1 n2 f1 f2 rfl rfl hdep hd hQ
end
section
/-! right texts -/
/-- an array of bytes that holds a row of numbers -/
def byf (h : Nat → Option am_C) (a n : Nat) (β : Nat → Nat) : Prop := n < 65536 ∧ ∃ f : Nat → Int32, h a = some (.inl (1, n, .inl f)) ∧ ∀ i, i < n → β i < 256 ∧ f i = sb_b (β i)
theorem nx_or (a b : Nat) : nI a ||| nI b = nI (a ||| b) := by
  apply Int32.toBitVec_inj.1
  show BitVec.ofNat 32 a ||| BitVec.ofNat 32 b = BitVec.ofNat 32 (a ||| b)
  apply BitVec.eq_of_getLsbD_eq
  intro i hi
  simp [hi]
theorem sb_m192 : ∀ b, b < 256 → (sb_b b &&& 192 = 128 ↔ 128 ≤ b ∧ b < 192) := by decide +kernel
theorem sb_m63 : ∀ b, b < 256 → 128 ≤ b ∧ b < 192 → sb_b b &&& 63 = nI (b - 128) := by decide +kernel
theorem sb_l2 : ∀ b, b < 256 → 192 ≤ b ∧ b < 224 → sb_b b &&& ((127 : Int32) >>> (nI 2 &&& 31)) = nI (b - 192) := by decide +kernel
theorem sb_l3 : ∀ b, b < 256 → 224 ≤ b ∧ b < 240 → sb_b b &&& ((127 : Int32) >>> (nI 3 &&& 31)) = nI (b - 224) := by decide +kernel
theorem sb_l4 : ∀ b, b < 256 → 240 ≤ b ∧ b < 248 → sb_b b &&& ((127 : Int32) >>> (nI 4 &&& 31)) = nI (b - 240) := by decide +kernel
theorem sb_app {v w : Nat} (hv : v < 2 ^ 24) (hw : w < 64) : (nI v <<< ((6 : Int32) &&& 31)) ||| nI w = nI (v * 64 + w) := by
  rw [pk_shlN (k := 6) _ (by decide) (by omega), nx_or]
  have h := Nat.two_pow_add_eq_or_of_lt (i := 6) (b := w) (by omega) v
  rw [show v * 2 ^ 6 = 2 ^ 6 * v by omega, ← h, show 2 ^ 6 * v + w = v * 64 + w by omega]
abbrev sp_cb (b : Nat) : Prop := 128 ≤ b ∧ b < 192
abbrev sp_rng (lo v : Nat) : Prop := lo ≤ v ∧ v ≤ 1114111 ∧ ¬ (55296 ≤ v ∧ v ≤ 57343)
def sp_ll (b : Nat) : Nat := if b < 128 then 1 else if b < 192 then 0 else if b < 224 then 2 else if b < 240 then 3 else if b < 248 then 4 else 0
/-- is the character at k one, its length by its first byte being n -/
abbrev sp_isc (β : Nat → Nat) (k n : Nat) : Prop :=
  n = 1 ∨ (n = 2 ∧ sp_cb (β (k + 1)) ∧ sp_rng 128 ((β k - 192) * 64 + (β (k + 1) - 128))) ∨
  (n = 3 ∧ sp_cb (β (k + 1)) ∧ sp_cb (β (k + 2)) ∧ sp_rng 2048 (((β k - 224) * 64 + (β (k + 1) - 128)) * 64 + (β (k + 2) - 128))) ∨
  (n = 4 ∧ sp_cb (β (k + 1)) ∧ sp_cb (β (k + 2)) ∧ sp_cb (β (k + 3)) ∧ sp_rng 65536 ((((β k - 240) * 64 + (β (k + 1) - 128)) * 64 + (β (k + 2) - 128)) * 64 + (β (k + 3) - 128)))
def sp_chr (β : Nat → Nat) (k e : Nat) : Nat := if k + sp_ll (β k) ≤ e ∧ sp_isc β k (sp_ll (β k)) then sp_ll (β k) else 0
/-- right UTF-8 from k to e -/
def sp_tx (β : Nat → Nat) : Nat → Nat → Nat → Bool
  | 0, _, _ => true
  | n + 1, k, e => if e ≤ k then true else if sp_chr β k e = 0 then false else sp_tx β n (k + sp_chr β k e) e
theorem sp_tx_end (β : Nat → Nat) (n k e : Nat) (h : e ≤ k) : sp_tx β n k e = true := by
  cases n with
  | zero => rfl
  | succ n => simp [sp_tx, h]
theorem sp_tx_fuel (β : Nat → Nat) : ∀ (n m k e : Nat), e - k ≤ n → e - k ≤ m → sp_tx β n k e = sp_tx β m k e := by
  intro n
  induction n with
  | zero =>
    intro m k e h1 h2
    rw [sp_tx_end β 0 k e (by omega), sp_tx_end β m k e (by omega)]
  | succ n ih =>
    intro m k e h1 h2
    by_cases he : e ≤ k
    · rw [sp_tx_end β _ k e he, sp_tx_end β m k e he]
    · obtain ⟨m, rfl⟩ : ∃ m', m = m' + 1 := ⟨m - 1, by omega⟩
      simp only [sp_tx, if_neg he]
      by_cases hc : sp_chr β k e = 0
      · rw [if_pos hc, if_pos hc]
      · rw [if_neg hc, if_neg hc]
        exact ih m _ e (by omega) (by omega)
section P24
variable {g : Nat × Nat} {d : Nat} {σ : am_H} {Q : Option Value → am_H → Prop}
theorem c_lead {b : Nat} (hb : b < 256) (h : Q (some (.int (nI (sp_ll b)))) σ) : AW g d 17 (0, [some (.int (nI b))], []) σ Q := by
  unfold sp_ll at h
  refine aw_run 2 (F' := (4, [some (.int (nI b))], [.int (nI 128), .int (nI b)])) rfl ?_
  refine aw_cge rfl (fun h1 => ?_) (fun h1 => ?_)
  · rw [if_neg (Nat.not_lt.mpr ((nI_leI (by omega) (by omega)).mp h1))] at h
    refine aw_run 2 (F' := (13, [some (.int (nI b))], [.int (nI 192), .int (nI b)])) rfl ?_
    refine aw_cge rfl (fun h2 => ?_) (fun h2 => ?_)
    · rw [if_neg (Nat.not_lt.mpr ((nI_leI (by omega) (by omega)).mp h2))] at h
      refine aw_run 2 (F' := (22, [some (.int (nI b))], [.int (nI 224), .int (nI b)])) rfl ?_
      refine aw_cge rfl (fun h3 => ?_) (fun h3 => ?_)
      · rw [if_neg (Nat.not_lt.mpr ((nI_leI (by omega) (by omega)).mp h3))] at h
        refine aw_run 2 (F' := (31, [some (.int (nI b))], [.int (nI 240), .int (nI b)])) rfl ?_
        refine aw_cge rfl (fun h4 => ?_) (fun h4 => ?_)
        · rw [if_neg (Nat.not_lt.mpr ((nI_leI (by omega) (by omega)).mp h4))] at h
          refine aw_run 2 (F' := (40, [some (.int (nI b))], [.int (nI 248), .int (nI b)])) rfl ?_
          refine aw_cge rfl (fun h5 => ?_) (fun h5 => ?_)
          · rw [if_neg (Nat.not_lt.mpr ((nI_leI (by omega) (by omega)).mp h5))] at h
            refine aw_run 1 (F' := (48, [some (.int (nI b))], [.int (nI 0)])) rfl ?_
            exact aw_iret rfl ⟨_, rfl, rfl⟩ h
          · rw [if_pos (Nat.lt_of_not_le (fun q => h5 ((nI_leI (by omega) (by omega)).mpr q)))] at h
            refine aw_run 2 (F' := (48, [some (.int (nI b))], [.int (nI 4)])) rfl ?_
            exact aw_iret rfl ⟨_, rfl, rfl⟩ h
        · rw [if_pos (Nat.lt_of_not_le (fun q => h4 ((nI_leI (by omega) (by omega)).mpr q)))] at h
          refine aw_run 1 (F' := (35, [some (.int (nI b))], [.int (nI 3)])) rfl ?_
          exact aw_iret rfl ⟨_, rfl, rfl⟩ h
      · rw [if_pos (Nat.lt_of_not_le (fun q => h3 ((nI_leI (by omega) (by omega)).mpr q)))] at h
        refine aw_run 1 (F' := (26, [some (.int (nI b))], [.int (nI 2)])) rfl ?_
        exact aw_iret rfl ⟨_, rfl, rfl⟩ h
    · rw [if_pos (Nat.lt_of_not_le (fun q => h2 ((nI_leI (by omega) (by omega)).mpr q)))] at h
      refine aw_run 1 (F' := (17, [some (.int (nI b))], [.int (nI 0)])) rfl ?_
      exact aw_iret rfl ⟨_, rfl, rfl⟩ h
  · rw [if_pos (Nat.lt_of_not_le (fun q => h1 ((nI_leI (by omega) (by omega)).mpr q)))] at h
    refine aw_run 1 (F' := (8, [some (.int (nI b))], [.int (nI 1)])) rfl ?_
    exact aw_iret rfl ⟨_, rfl, rfl⟩ h
/-- isCharacter: one more byte -/
theorem c_isc_it {a N k n v i : Nat} {β : Nat → Nat} {x5 : Option Value} (hb : byf σ.1 a N β) (hi : i < k + n) (hN : k + n ≤ N) (hv : v < 2 ^ 18) (h1 : sp_cb (β i) → AW g d 18 (21, [some (.ref a), some (.int (nI k)), some (.int (nI n)), some (.int (nI (v * 64 + (β i - 128)))), some (.int (nI (i + 1))), x5], []) σ Q) (h2 : ¬ sp_cb (β i) → Q (some (.int 0)) σ) : AW g d 18 (21, [some (.ref a), some (.int (nI k)), some (.int (nI n)), some (.int (nI v)), some (.int (nI i)), x5], []) σ Q := by
  obtain ⟨n1, f, ha, hf⟩ := hb
  obtain ⟨hbi, hfi⟩ := hf i (by omega)
  have e1 : f (nI i).toNatClampNeg = sb_b (β i) := by rw [nI_clamp (by omega), hfi]
  refine aw_run 4 (F' := (26, [some (.ref a), some (.int (nI k)), some (.int (nI n)), some (.int (nI v)), some (.int (nI i)), x5], [.int (nI k + nI n), .int (nI i)])) rfl ?_
  rw [nI_add]
  refine aw_cge rfl (fun q => absurd ((nI_leI (by omega) (by omega)).mp q) (by omega)) (fun _ => ?_)
  refine aw_run 2 (F' := (32, [some (.ref a), some (.int (nI k)), some (.int (nI n)), some (.int (nI v)), some (.int (nI i)), x5], [.ref a, .int (nI i)])) rfl ?_
  refine aw_len rfl ha (by decide) ?_
  refine aw_cge rfl (fun q => absurd ((nI_leI (by omega) (by omega)).mp q) (by omega)) (fun _ => ?_)
  refine aw_run 2 (F' := (39, [some (.ref a), some (.int (nI k)), some (.int (nI n)), some (.int (nI v)), some (.int (nI i)), x5], [.int (nI i), .ref a])) rfl ?_
  refine aw_bald rfl ha (vp_in_nI (by omega) (by omega)) ?_
  refine aw_run 3 (F' := (47, [some (.ref a), some (.int (nI k)), some (.int (nI n)), some (.int (nI v)), some (.int (nI i)), x5], [.int 128, .int (f (nI i).toNatClampNeg &&& 192)])) rfl ?_
  rw [e1]
  refine aw_ceq rfl (fun q => ?_) (fun q => ?_)
  · have hc := (sb_m192 _ hbi).mp q
    refine aw_run 5 (F' := (59, [some (.ref a), some (.int (nI k)), some (.int (nI n)), some (.int (nI v)), some (.int (nI i)), x5], [.int (nI i), .ref a, .int (nI v <<< ((6 : Int32) &&& 31))])) rfl ?_
    refine aw_bald rfl ha (vp_in_nI (by omega) (by omega)) ?_
    refine aw_run 6 (F' := (21, [some (.ref a), some (.int (nI k)), some (.int (nI n)), some (.int ((nI v <<< ((6 : Int32) &&& 31)) ||| (f (nI i).toNatClampNeg &&& 63))), some (.int (nI i + 1)), x5], [])) rfl ?_
    rw [e1, sb_m63 _ hbi hc, sb_app (by omega) (by omega), nI_1]
    exact h1 hc
  · refine aw_run 1 (F' := (51, [some (.ref a), some (.int (nI k)), some (.int (nI n)), some (.int (nI v)), some (.int (nI i)), x5], [.int 0])) rfl ?_
    exact aw_iret rfl ⟨_, rfl, rfl⟩ (h2 (fun hc => q ((sb_m192 _ hbi).mpr hc)))
/-- isCharacter: its end -/
theorem c_isc_end {a N k n v lo : Nat} {β : Nat → Nat} {x5 : Option Value} (hb : byf σ.1 a N β) (hN : k + n ≤ N) (hn : (n = 2 ∧ lo = 128) ∨ (n = 3 ∧ lo = 2048) ∨ (n = 4 ∧ lo = 65536)) (hv : v < 2 ^ 30) (h1 : sp_rng lo v → Q (some (.int 1)) σ) (h2 : ¬ sp_rng lo v → Q (some (.int 0)) σ) : AW g d 18 (21, [some (.ref a), some (.int (nI k)), some (.int (nI n)), some (.int (nI v)), some (.int (nI (k + n))), x5], []) σ Q := by
  obtain ⟨n1, f, ha, hf⟩ := hb
  refine aw_run 4 (F' := (26, [some (.ref a), some (.int (nI k)), some (.int (nI n)), some (.int (nI v)), some (.int (nI (k + n))), x5], [.int (nI k + nI n), .int (nI (k + n))])) rfl ?_
  rw [nI_add]
  refine aw_cge rfl (fun _ => ?_) (fun q => absurd (Int32.le_refl _) q)
  have fin : ∀ s : Nat, ((s = 1 ∧ 55296 ≤ v ∧ v ≤ 57343) ∨ (s = 0 ∧ ¬ (55296 ≤ v ∧ v ≤ 57343))) → AW g d 18 (114, [some (.ref a), some (.int (nI k)), some (.int (nI n)), some (.int (nI v)), some (.int (nI s)), x5], [.int (nI lo)]) σ Q := by
    intro s hs
    refine aw_run 3 (F' := (119, [some (.ref a), some (.int (nI k)), some (.int (nI n)), some (.int (nI v)), some (.int (nI s)), some (.int (nI lo))], [.int (nI lo), .int (nI v)])) rfl ?_
    have no : ¬ sp_rng lo v → AW g d 18 (137, [some (.ref a), some (.int (nI k)), some (.int (nI n)), some (.int (nI v)), some (.int (nI s)), some (.int (nI lo))], []) σ Q := by
      intro q
      refine aw_run 1 (F' := (138, [some (.ref a), some (.int (nI k)), some (.int (nI n)), some (.int (nI v)), some (.int (nI s)), some (.int (nI lo))], [.int 0])) rfl ?_
      exact aw_iret rfl ⟨_, rfl, rfl⟩ (h2 q)
    refine aw_clt rfl (fun q => ?_) (fun q => ?_)
    · have q' := (nI_ltI (by omega) (by omega)).mp q
      exact no (fun z => by have := z.1; omega)
    · have q' : ¬ v < lo := fun z => q ((nI_ltI (by omega) (by omega)).mpr z)
      refine aw_run 2 (F' := (125, [some (.ref a), some (.int (nI k)), some (.int (nI n)), some (.int (nI v)), some (.int (nI s)), some (.int (nI lo))], [.int (nI 1114111), .int (nI v)])) rfl ?_
      refine aw_cgt rfl (fun r => ?_) (fun r => ?_)
      · have r' := (nI_ltI (by omega) (by omega)).mp r
        exact no (fun z => by have := z.2.1; omega)
      · have r' : ¬ 1114111 < v := fun z => r ((nI_ltI (by omega) (by omega)).mpr z)
        refine aw_run 1 (F' := (130, [some (.ref a), some (.int (nI k)), some (.int (nI n)), some (.int (nI v)), some (.int (nI s)), some (.int (nI lo))], [.int (nI s)])) rfl ?_
        refine aw_zne rfl (fun t => ?_) (fun t => ?_)
        · rcases hs with ⟨rfl, z⟩ | ⟨rfl, z⟩
          · exact no (fun w => w.2.2 z)
          · exact absurd rfl t
        · rcases hs with ⟨rfl, z⟩ | ⟨rfl, z⟩
          · exact absurd (by decide) t
          · refine aw_run 2 (F' := (138, [some (.ref a), some (.int (nI k)), some (.int (nI n)), some (.int (nI v)), some (.int (nI 0)), some (.int (nI lo))], [.int 1])) rfl ?_
            exact aw_iret rfl ⟨_, rfl, rfl⟩ (h1 ⟨by omega, by omega, z⟩)
  have mid : ∀ s : Nat, ((s = 1 ∧ 55296 ≤ v ∧ v ≤ 57343) ∨ (s = 0 ∧ ¬ (55296 ≤ v ∧ v ≤ 57343))) → AW g d 18 (88, [some (.ref a), some (.int (nI k)), some (.int (nI n)), some (.int (nI v)), some (.int (nI (k + n))), x5], [.int (nI s)]) σ Q := by
    intro s hs
    refine aw_run 3 (F' := (92, [some (.ref a), some (.int (nI k)), some (.int (nI n)), some (.int (nI v)), some (.int (nI s)), x5], [.int (nI 2), .int (nI n)])) rfl ?_
    rcases hn with ⟨rfl, rfl⟩ | ⟨rfl, rfl⟩ | ⟨rfl, rfl⟩
    · refine aw_cne rfl (fun q => absurd rfl q) (fun _ => ?_)
      refine aw_run 2 (F' := (114, [some (.ref a), some (.int (nI k)), some (.int (nI 2)), some (.int (nI v)), some (.int (nI s)), x5], [.int (nI 128)])) rfl ?_
      exact fin s hs
    · refine aw_cne rfl (fun _ => ?_) (fun q => absurd (by decide) q)
      refine aw_run 2 (F' := (103, [some (.ref a), some (.int (nI k)), some (.int (nI 3)), some (.int (nI v)), some (.int (nI s)), x5], [.int (nI 3), .int (nI 3)])) rfl ?_
      refine aw_cne rfl (fun q => absurd rfl q) (fun _ => ?_)
      refine aw_run 2 (F' := (114, [some (.ref a), some (.int (nI k)), some (.int (nI 3)), some (.int (nI v)), some (.int (nI s)), x5], [.int (nI 2048)])) rfl ?_
      exact fin s hs
    · refine aw_cne rfl (fun _ => ?_) (fun q => absurd (by decide) q)
      refine aw_run 2 (F' := (103, [some (.ref a), some (.int (nI k)), some (.int (nI 4)), some (.int (nI v)), some (.int (nI s)), x5], [.int (nI 3), .int (nI 4)])) rfl ?_
      refine aw_cne rfl (fun _ => ?_) (fun q => absurd (by decide) q)
      refine aw_run 1 (F' := (114, [some (.ref a), some (.int (nI k)), some (.int (nI 4)), some (.int (nI v)), some (.int (nI s)), x5], [.int (nI 65536)])) rfl ?_
      exact fin s hs
  refine aw_run 2 (F' := (74, [some (.ref a), some (.int (nI k)), some (.int (nI n)), some (.int (nI v)), some (.int (nI (k + n))), x5], [.int (nI 55296), .int (nI v)])) rfl ?_
  refine aw_clt rfl (fun q => ?_) (fun q => ?_)
  · have q' := (nI_ltI (by omega) (by omega)).mp q
    refine aw_run 1 (F' := (88, [some (.ref a), some (.int (nI k)), some (.int (nI n)), some (.int (nI v)), some (.int (nI (k + n))), x5], [.int (nI 0)])) rfl ?_
    exact mid 0 (Or.inr ⟨rfl, by omega⟩)
  · have q' : ¬ v < 55296 := fun z => q ((nI_ltI (by omega) (by omega)).mpr z)
    refine aw_run 2 (F' := (80, [some (.ref a), some (.int (nI k)), some (.int (nI n)), some (.int (nI v)), some (.int (nI (k + n))), x5], [.int (nI 57343), .int (nI v)])) rfl ?_
    refine aw_cgt rfl (fun r => ?_) (fun r => ?_)
    · have r' := (nI_ltI (by omega) (by omega)).mp r
      refine aw_run 1 (F' := (88, [some (.ref a), some (.int (nI k)), some (.int (nI n)), some (.int (nI v)), some (.int (nI (k + n))), x5], [.int (nI 0)])) rfl ?_
      exact mid 0 (Or.inr ⟨rfl, by omega⟩)
    · have r' : ¬ 57343 < v := fun z => r ((nI_ltI (by omega) (by omega)).mpr z)
      refine aw_run 2 (F' := (88, [some (.ref a), some (.int (nI k)), some (.int (nI n)), some (.int (nI v)), some (.int (nI (k + n))), x5], [.int (nI 1)])) rfl ?_
      exact mid 1 (Or.inl ⟨rfl, by omega, by omega⟩)
end P24
end
section
section P25
variable {g : Nat × Nat} {d : Nat} {σ : am_H} {Q : Option Value → am_H → Prop}
theorem sp_ll_cases {b : Nat} (hb : b < 256) : (b < 128 ∧ sp_ll b = 1) ∨ (128 ≤ b ∧ b < 192 ∧ sp_ll b = 0) ∨ (192 ≤ b ∧ b < 224 ∧ sp_ll b = 2) ∨ (224 ≤ b ∧ b < 240 ∧ sp_ll b = 3) ∨ (240 ≤ b ∧ b < 248 ∧ sp_ll b = 4) ∨ (248 ≤ b ∧ sp_ll b = 0) := by
  unfold sp_ll
  by_cases h1 : b < 128
  · left; simp [h1]
  · by_cases h2 : b < 192
    · right; left; simp [h1, h2]; omega
    · by_cases h3 : b < 224
      · right; right; left; simp [h1, h2, h3]; omega
      · by_cases h4 : b < 240
        · right; right; right; left; simp [h1, h2, h3, h4]; omega
        · by_cases h5 : b < 248
          · right; right; right; right; left; simp [h1, h2, h3, h4, h5]; omega
          · right; right; right; right; right; simp [h1, h2, h3, h4, h5]; omega
/-- isCharacter -/
theorem c_isc {a N k n : Nat} {β : Nat → Nat} (hb : byf σ.1 a N β) (hn : n = sp_ll (β k)) (hn0 : n ≠ 0) (hN : k + n ≤ N) (h1 : sp_isc β k n → Q (some (.int 1)) σ) (h2 : ¬ sp_isc β k n → Q (some (.int 0)) σ) : AW g d 18 (0, [some (.ref a), some (.int (nI k)), some (.int (nI n)), none, none, none], []) σ Q := by
  have hb' := hb
  obtain ⟨n1, f, ha, hf⟩ := hb'
  obtain ⟨hbk, hfk⟩ := hf k (by omega)
  have e1 : f (nI k).toNatClampNeg = sb_b (β k) := by rw [nI_clamp (by omega), hfk]
  refine aw_run 2 (F' := (2, [some (.ref a), some (.int (nI k)), some (.int (nI n)), none, none, none], [.int (nI 1), .int (nI n)])) rfl ?_
  have hbd : ∀ i, i < N → β i < 256 := fun i hi => (hf i hi).1
  rcases sp_ll_cases hbk with ⟨l1, e⟩ | ⟨l1, l2, e⟩ | ⟨l1, l2, e⟩ | ⟨l1, l2, e⟩ | ⟨l1, l2, e⟩ | ⟨l1, e⟩ <;> rw [e] at hn <;> subst hn
  · refine aw_cne rfl (fun q => absurd rfl q) (fun _ => ?_)
    refine aw_run 1 (F' := (6, [some (.ref a), some (.int (nI k)), some (.int (nI 1)), none, none, none], [.int 1])) rfl ?_
    exact aw_iret rfl ⟨_, rfl, rfl⟩ (h1 (Or.inl rfl))
  · exact absurd rfl hn0
  · refine aw_cne rfl (fun _ => ?_) (fun q => absurd (by decide) q)
    refine aw_run 2 (F' := (9, [some (.ref a), some (.int (nI k)), some (.int (nI 2)), none, none, none], [.int (nI k), .ref a])) rfl ?_
    refine aw_bald rfl ha (vp_in_nI (by omega) (by omega)) ?_
    refine aw_run 9 (F' := (21, [some (.ref a), some (.int (nI k)), some (.int (nI 2)), some (.int (f (nI k).toNatClampNeg &&& ((127 : Int32) >>> (nI 2 &&& 31)))), some (.int (nI k + 1)), none], [])) rfl ?_
    rw [e1, sb_l2 _ hbk ⟨l1, l2⟩, nI_1]
    refine c_isc_it hb (by omega) hN (by omega) (fun q1 => ?_) (fun q1 => h2 (fun z => ?_))
    · have hk1 := hbd (k + 1) (by omega)
      refine c_isc_end hb hN (Or.inl ⟨rfl, rfl⟩) (by omega) (fun z => h1 (Or.inr (Or.inl ⟨rfl, q1, z⟩))) (fun z => h2 (fun w => ?_))
      rcases w with w | w | w | w
      · omega
      · exact z w.2.2
      · omega
      · omega
    · rcases z with w | w | w | w
      · omega
      · exact q1 w.2.1
      · omega
      · omega
  · refine aw_cne rfl (fun _ => ?_) (fun q => absurd (by decide) q)
    refine aw_run 2 (F' := (9, [some (.ref a), some (.int (nI k)), some (.int (nI 3)), none, none, none], [.int (nI k), .ref a])) rfl ?_
    refine aw_bald rfl ha (vp_in_nI (by omega) (by omega)) ?_
    refine aw_run 9 (F' := (21, [some (.ref a), some (.int (nI k)), some (.int (nI 3)), some (.int (f (nI k).toNatClampNeg &&& ((127 : Int32) >>> (nI 3 &&& 31)))), some (.int (nI k + 1)), none], [])) rfl ?_
    rw [e1, sb_l3 _ hbk ⟨l1, l2⟩, nI_1]
    refine c_isc_it hb (by omega) hN (by omega) (fun q1 => ?_) (fun q1 => h2 (fun z => ?_))
    · have hk1 := hbd (k + 1) (by omega)
      refine c_isc_it hb (by omega) hN (by omega) (fun q2 => ?_) (fun q2 => h2 (fun z => ?_))
      · have hk2 := hbd (k + 2) (by omega)
        refine c_isc_end hb hN (Or.inr (Or.inl ⟨rfl, rfl⟩)) (by omega) (fun z => h1 (Or.inr (Or.inr (Or.inl ⟨rfl, q1, q2, z⟩)))) (fun z => h2 (fun w => ?_))
        rcases w with w | w | w | w
        · omega
        · omega
        · exact z w.2.2.2
        · omega
      · rcases z with w | w | w | w
        · omega
        · omega
        · exact q2 w.2.2.1
        · omega
    · rcases z with w | w | w | w
      · omega
      · omega
      · exact q1 w.2.1
      · omega
  · refine aw_cne rfl (fun _ => ?_) (fun q => absurd (by decide) q)
    refine aw_run 2 (F' := (9, [some (.ref a), some (.int (nI k)), some (.int (nI 4)), none, none, none], [.int (nI k), .ref a])) rfl ?_
    refine aw_bald rfl ha (vp_in_nI (by omega) (by omega)) ?_
    refine aw_run 9 (F' := (21, [some (.ref a), some (.int (nI k)), some (.int (nI 4)), some (.int (f (nI k).toNatClampNeg &&& ((127 : Int32) >>> (nI 4 &&& 31)))), some (.int (nI k + 1)), none], [])) rfl ?_
    rw [e1, sb_l4 _ hbk ⟨l1, l2⟩, nI_1]
    refine c_isc_it hb (by omega) hN (by omega) (fun q1 => ?_) (fun q1 => h2 (fun z => ?_))
    · have hk1 := hbd (k + 1) (by omega)
      refine c_isc_it hb (by omega) hN (by omega) (fun q2 => ?_) (fun q2 => h2 (fun z => ?_))
      · have hk2 := hbd (k + 2) (by omega)
        refine c_isc_it hb (by omega) hN (by omega) (fun q3 => ?_) (fun q3 => h2 (fun z => ?_))
        · have hk3 := hbd (k + 3) (by omega)
          refine c_isc_end hb hN (Or.inr (Or.inr ⟨rfl, rfl⟩)) (by omega) (fun z => h1 (Or.inr (Or.inr (Or.inr ⟨rfl, q1, q2, q3, z⟩)))) (fun z => h2 (fun w => ?_))
          rcases w with w | w | w | w
          · omega
          · omega
          · omega
          · exact z w.2.2.2.2
        · rcases z with w | w | w | w
          · omega
          · omega
          · omega
          · exact q3 w.2.2.2.1
      · rcases z with w | w | w | w
        · omega
        · omega
        · omega
        · exact q2 w.2.2.1
    · rcases z with w | w | w | w
      · omega
      · omega
      · omega
      · exact q1 w.2.1
  · exact absurd rfl hn0
/-- isRight: its loop -/
theorem c_utfL {a N s e : Nat} {β : Nat → Nat} (hb : byf σ.1 a N β) (he : e ≤ N) : ∀ (n k j : Nat) (x5 : Option Value), e - k < n → j ≤ k → k ≤ N → Q (some (.int (if sp_tx β n k e then 1 else 0))) σ → AW g (d + 1) 16 (17, [some (.ref a), some (.int (nI s)), some (.int (nI e)), some (.int (nI k)), some (.int (nI j)), x5], []) σ Q := by
  have hb' := hb
  obtain ⟨n1, f, ha, hf⟩ := hb'
  intro n
  induction n with
  | zero => intro k j x5 h; omega
  | succ n ih =>
    intro k j x5 hk hj hkN hQ
    have yes : e ≤ k → AW g (d + 1) 16 (76, [some (.ref a), some (.int (nI s)), some (.int (nI e)), some (.int (nI k)), some (.int (nI j)), x5], []) σ Q := by
      intro q
      refine aw_run 1 (F' := (77, [some (.ref a), some (.int (nI s)), some (.int (nI e)), some (.int (nI k)), some (.int (nI j)), x5], [.int 1])) rfl ?_
      rw [sp_tx_end _ _ _ _ q] at hQ
      exact aw_iret rfl ⟨_, rfl, rfl⟩ hQ
    by_cases hek : e ≤ k
    · refine aw_run 2 (F' := (20, [some (.ref a), some (.int (nI s)), some (.int (nI e)), some (.int (nI k)), some (.int (nI j)), x5], [.int (nI e), .int (nI j)])) rfl ?_
      refine aw_cge rfl (fun _ => yes hek) (fun _ => ?_)
      refine aw_run 2 (F' := (25, [some (.ref a), some (.int (nI s)), some (.int (nI e)), some (.int (nI k)), some (.int (nI j)), x5], [.int (nI e), .int (nI k)])) rfl ?_
      refine aw_cge rfl (fun _ => yes hek) (fun q => absurd ((nI_leI (by omega) (by omega)).mpr hek) q)
    · refine aw_run 2 (F' := (20, [some (.ref a), some (.int (nI s)), some (.int (nI e)), some (.int (nI k)), some (.int (nI j)), x5], [.int (nI e), .int (nI j)])) rfl ?_
      refine aw_cge rfl (fun q => absurd ((nI_leI (by omega) (by omega)).mp q) (by omega)) (fun _ => ?_)
      refine aw_run 2 (F' := (25, [some (.ref a), some (.int (nI s)), some (.int (nI e)), some (.int (nI k)), some (.int (nI j)), x5], [.int (nI e), .int (nI k)])) rfl ?_
      refine aw_cge rfl (fun q => absurd ((nI_leI (by omega) (by omega)).mp q) (by omega)) (fun _ => ?_)
      obtain ⟨hbk, hfk⟩ := hf k (by omega)
      have e1 : f (nI k).toNatClampNeg = sb_b (β k) := by rw [nI_clamp (by omega), hfk]
      refine aw_run 2 (F' := (30, [some (.ref a), some (.int (nI s)), some (.int (nI e)), some (.int (nI k)), some (.int (nI j)), x5], [.int (nI k), .ref a])) rfl ?_
      refine aw_bald rfl ha (vp_in_nI (by omega) (by omega)) ?_
      refine aw_run 2 (F' := (35, [some (.ref a), some (.int (nI s)), some (.int (nI e)), some (.int (nI k)), some (.int (nI j)), x5], [.int (f (nI k).toNatClampNeg &&& 255)])) rfl ?_
      rw [e1, (sb_byte _ hbk).1]
      refine aw_s [.int (nI (β k))] [] rfl ⟨by decide, by decide⟩ rfl rfl (Nat.le_of_ble_eq_true rfl) (Nat.le_of_ble_eq_true rfl) ?_
      refine c_lead hbk ?_
      refine aw_run 2 (F' := (42, [some (.ref a), some (.int (nI s)), some (.int (nI e)), some (.int (nI k)), some (.int (nI j)), some (.int (nI (sp_ll (β k))))], [.int (nI (sp_ll (β k)))])) rfl ?_
      simp only [sp_tx, if_neg hek] at hQ
      have hll : sp_ll (β k) ≤ 4 := by
        rcases sp_ll_cases hbk with ⟨-, q⟩ | ⟨-, -, q⟩ | ⟨-, -, q⟩ | ⟨-, -, q⟩ | ⟨-, -, q⟩ | ⟨-, q⟩ <;> omega
      have no : sp_chr β k e = 0 → AW g (d + 1) 16 (63, [some (.ref a), some (.int (nI s)), some (.int (nI e)), some (.int (nI k)), some (.int (nI j)), some (.int (nI (sp_ll (β k))))], []) σ Q := by
        intro q
        refine aw_run 1 (F' := (64, [some (.ref a), some (.int (nI s)), some (.int (nI e)), some (.int (nI k)), some (.int (nI j)), some (.int (nI (sp_ll (β k))))], [.int 0])) rfl ?_
        rw [if_pos q] at hQ
        exact aw_iret rfl ⟨_, rfl, rfl⟩ hQ
      refine aw_zeq rfl (fun q => ?_) (fun q => ?_)
      · have q' : sp_ll (β k) = 0 := (nI_eq (b := 0) (by omega) (by omega)).mp q
        refine no ?_
        unfold sp_chr
        rw [q']
        simp
      · have q' : sp_ll (β k) ≠ 0 := fun z => q (by rw [z]; rfl)
        refine aw_run 4 (F' := (50, [some (.ref a), some (.int (nI s)), some (.int (nI e)), some (.int (nI k)), some (.int (nI j)), some (.int (nI (sp_ll (β k))))], [.int (nI e - nI k), .int (nI (sp_ll (β k)))])) rfl ?_
        rw [pk_sub (by omega)]
        refine aw_cgt rfl (fun r => ?_) (fun r => ?_)
        · have r' := (nI_ltI (by omega) (by omega)).mp r
          refine no ?_
          unfold sp_chr
          rw [if_neg (fun z => by omega)]
        · have r' : ¬ e - k < sp_ll (β k) := fun z => r ((nI_ltI (by omega) (by omega)).mpr z)
          refine aw_run 3 (F' := (57, [some (.ref a), some (.int (nI s)), some (.int (nI e)), some (.int (nI k)), some (.int (nI j)), some (.int (nI (sp_ll (β k))))], [.int (nI (sp_ll (β k))), .int (nI k), .ref a])) rfl ?_
          refine aw_s [.ref a, .int (nI k), .int (nI (sp_ll (β k)))] [] rfl ⟨by decide, by decide⟩ rfl rfl (Nat.le_of_ble_eq_true rfl) (Nat.le_of_ble_eq_true rfl) ?_
          refine c_isc hb rfl q' (by omega) (fun z => ?_) (fun z => ?_)
          · have hch : sp_chr β k e = sp_ll (β k) := by
              unfold sp_chr
              rw [if_pos ⟨by omega, z⟩]
            rw [hch, if_neg q'] at hQ
            refine aw_zne rfl (fun _ => ?_) (fun w => absurd (by decide) w)
            refine aw_run 6 (F' := (17, [some (.ref a), some (.int (nI s)), some (.int (nI e)), some (.int (nI k + nI (sp_ll (β k)))), some (.int (nI j + 1)), some (.int (nI (sp_ll (β k))))], [])) rfl ?_
            rw [nI_add, nI_1]
            exact ih _ _ _ (by omega) (by omega) (by omega) hQ
          · refine aw_zne rfl (fun w => absurd rfl w) (fun _ => ?_)
            refine no ?_
            unfold sp_chr
            rw [if_neg (fun w => z w.2)]
/-- Utf8.isRight -/
theorem c_isRight {a N s e : Nat} {β : Nat → Nat} (hb : byf σ.1 a N β) (hs : s ≤ N) (he : e ≤ N) (hQ : Q (some (.int (if sp_tx β (e - s) s e then 1 else 0))) σ) : AW g (d + 1) 16 (0, [some (.ref a), some (.int (nI s)), some (.int (nI e)), none, none, none], []) σ Q := by
  have hb' := hb
  obtain ⟨n1, f, ha, hf⟩ := hb'
  refine aw_run 1 (F' := (1, [some (.ref a), some (.int (nI s)), some (.int (nI e)), none, none, none], [.int (nI s)])) rfl ?_
  refine aw_zlt rfl (fun q => absurd q (nI_pos (by omega))) (fun _ => ?_)
  refine aw_run 2 (F' := (6, [some (.ref a), some (.int (nI s)), some (.int (nI e)), none, none, none], [.ref a, .int (nI e)])) rfl ?_
  refine aw_len rfl ha (by decide) ?_
  refine aw_cle rfl (fun _ => ?_) (fun q => absurd ((nI_leI (by omega) (by omega)).mpr he) q)
  refine aw_run 4 (F' := (17, [some (.ref a), some (.int (nI s)), some (.int (nI e)), some (.int (nI s)), some (.int (nI s)), none], [])) rfl ?_
  refine c_utfL hb he (e - s + 1) s s none (by omega) (Nat.le_refl _) hs ?_
  rw [sp_tx_fuel β (e - s + 1) (e - s) s e (by omega) (by omega)]
  exact hQ
end P25
end
section
/-! ===== lN n to 2^64: shifts, and, or, masks, one bit ===== -/
theorem wb_tb (n : Nat) : (lN n).toBitVec = BitVec.ofNat 64 n := rfl
theorem wb_inj {a b : Int64} (h : a.toBitVec = b.toBitVec) : a = b := Int64.toBitVec_inj.mp h
theorem wb_tn {n : Nat} (h : n < 2 ^ 64) : (lN n).toBitVec.toNat = n := by rw [wb_tb, BitVec.toNat_ofNat, Nat.mod_eq_of_lt h]
theorem wb_of (x : Int64) : ∃ n, n < 2 ^ 64 ∧ x = lN n := ⟨x.toBitVec.toNat, x.toBitVec.isLt, wb_inj (by rw [wb_tb]; simp)⟩
theorem wb_of32 (x : Int32) : ∃ n, n < 2 ^ 32 ∧ x = nI n := ⟨x.toBitVec.toNat, x.toBitVec.isLt, Int32.toBitVec_inj.mp (by show _ = BitVec.ofNat 32 _; simp)⟩
theorem wb_c : ∀ k, k < 64 → ((nI k).toInt64 &&& 63) = lN k := by decide +kernel
theorem wb_cu : ∀ k, k < 64 → ((nI k).toInt64.toUInt64 &&& Int64.toUInt64 63) = UInt64.ofNat k := by decide +kernel
theorem wb_sm : ∀ k, k < 64 → (BitVec.ofNat 64 k).smod 64 = BitVec.ofNat 64 k := by decide +kernel
theorem wb_pw {a b : Nat} (h : a ≤ b) : 2 ^ b = 2 ^ a * 2 ^ (b - a) := by rw [← Nat.pow_add]; congr 1; omega
theorem wb_lt2 {a b : Nat} (h : a < b) : 2 ^ a < 2 ^ b := Nat.pow_lt_pow_right (by decide) h
theorem wb_mod (n : Nat) : lN n = lN (n % 2 ^ 64) := wb_inj (by rw [wb_tb, wb_tb]; apply BitVec.eq_of_toNat_eq; rw [BitVec.toNat_ofNat, BitVec.toNat_ofNat, Nat.mod_mod])
theorem wb_shr {n k : Nat} (hn : n < 2 ^ 64) (hk : k < 64) : ((lN n).toUInt64 >>> ((nI k).toInt64.toUInt64 &&& Int64.toUInt64 63)).toInt64 = lN (n / 2 ^ k) := by
  rw [wb_cu k hk]
  apply wb_inj
  apply BitVec.eq_of_toNat_eq
  show ((lN n).toUInt64 >>> UInt64.ofNat k).toNat = (BitVec.ofNat 64 _).toNat
  have h1 : (UInt64.ofNat k).toNat = k := by
    show (BitVec.ofNat 64 k).toNat = k
    rw [BitVec.toNat_ofNat, Nat.mod_eq_of_lt (by omega)]
  have h2 : (lN n).toUInt64.toNat = n := wb_tn hn
  rw [UInt64.toNat_shiftRight, h1, h2, Nat.mod_eq_of_lt hk, Nat.shiftRight_eq_div_pow, BitVec.toNat_ofNat, Nat.mod_eq_of_lt (Nat.lt_of_le_of_lt (Nat.div_le_self _ _) hn)]
theorem wb_shl (n : Nat) {k : Nat} (hk : k < 64) : lN n <<< ((nI k).toInt64 &&& 63) = lN (n * 2 ^ k) := by
  rw [wb_c k hk]
  apply wb_inj
  rw [Int64.toBitVec_shiftLeft, wb_tb, wb_tb, wb_tb, wb_sm k hk]
  apply BitVec.eq_of_toNat_eq
  rw [BitVec.shiftLeft_eq', BitVec.toNat_shiftLeft, BitVec.toNat_ofNat, BitVec.toNat_ofNat, BitVec.toNat_ofNat, Nat.mod_eq_of_lt (show k < 2 ^ 64 by omega), Nat.shiftLeft_eq, Nat.mul_mod, Nat.mod_mod, ← Nat.mul_mod]
theorem wb_and {a b : Nat} (ha : a < 2 ^ 64) (hb : b < 2 ^ 64) : lN a &&& lN b = lN (a &&& b) := by
  apply wb_inj
  rw [Int64.toBitVec_and, wb_tb, wb_tb, wb_tb]
  apply BitVec.eq_of_toNat_eq
  rw [BitVec.toNat_and, BitVec.toNat_ofNat, BitVec.toNat_ofNat, BitVec.toNat_ofNat, Nat.mod_eq_of_lt ha, Nat.mod_eq_of_lt hb, Nat.mod_eq_of_lt (Nat.and_lt_two_pow _ hb)]
theorem wb_or {a b : Nat} (ha : a < 2 ^ 64) (hb : b < 2 ^ 64) : lN a ||| lN b = lN (a ||| b) := by
  apply wb_inj
  rw [Int64.toBitVec_or, wb_tb, wb_tb, wb_tb]
  apply BitVec.eq_of_toNat_eq
  rw [BitVec.toNat_or, BitVec.toNat_ofNat, BitVec.toNat_ofNat, BitVec.toNat_ofNat, Nat.mod_eq_of_lt ha, Nat.mod_eq_of_lt hb, Nat.mod_eq_of_lt (Nat.or_lt_two_pow ha hb)]
theorem wb_mask {n k : Nat} (hn : n < 2 ^ 64) (hk : k < 64) : lN n &&& lN (2 ^ k - 1) = lN (n % 2 ^ k) := by
  rw [wb_and hn (by have := wb_lt2 hk; omega), Nat.and_two_pow_sub_one_eq_mod]
theorem wb_a1 {n : Nat} (hn : n < 2 ^ 64) : lN n &&& 1 = lN (n % 2) := wb_mask (k := 1) hn (by decide)
theorem wb_bit {n k : Nat} (hn : n < 2 ^ 64) (hk : k < 64) : ((lN n).toUInt64 >>> ((nI k).toInt64.toUInt64 &&& Int64.toUInt64 63)).toInt64 &&& 1 = lN (n / 2 ^ k % 2) := by
  rw [wb_shr hn hk, wb_a1 (Nat.lt_of_le_of_lt (Nat.div_le_self _ _) hn)]
theorem wb_xor {q k : Nat} (hk : k < 63) (h : 2 ^ k ≤ q) (h2 : q < 2 ^ (k + 1)) : lN q ^^^ lN (2 ^ k) = lN (q - 2 ^ k) := by
  obtain ⟨r, rfl⟩ : ∃ r, q = 2 ^ k + r := ⟨q - 2 ^ k, by omega⟩
  have hr : r < 2 ^ k := by rw [Nat.pow_succ] at h2; omega
  have hx : (2 ^ k + r) ^^^ 2 ^ k = r := by
    apply Nat.eq_of_testBit_eq
    intro i
    rw [Nat.testBit_xor, Nat.testBit_two_pow]
    rcases Nat.lt_trichotomy i k with h | h | h
    · rw [Nat.testBit_two_pow_add_gt h]
      simp [show ¬ k = i by omega]
    · subst h
      rw [Nat.testBit_two_pow_add_eq]
      simp
    · have a1 : 2 ^ (k + 1) ≤ 2 ^ i := Nat.pow_le_pow_right (by decide) h
      rw [Nat.testBit_lt_two_pow (show 2 ^ k + r < 2 ^ i by omega), Nat.testBit_lt_two_pow (show r < 2 ^ i by omega)]
      simp [show ¬ k = i by omega]
  have b1 := wb_lt2 (show k + 1 < 64 by omega)
  have b2 := wb_lt2 (show k < 64 by omega)
  apply wb_inj
  rw [Int64.toBitVec_xor, wb_tb, wb_tb, wb_tb]
  apply BitVec.eq_of_toNat_eq
  rw [BitVec.toNat_xor, BitVec.toNat_ofNat, BitVec.toNat_ofNat, BitVec.toNat_ofNat, Nat.mod_eq_of_lt (by omega : 2 ^ k + r < 2 ^ 64), Nat.mod_eq_of_lt b2, hx, Nat.add_sub_cancel_left, Nat.mod_eq_of_lt (by omega)]
end
section
/-! the reader's small steps -/
def wf (σ : am_H) : Prop := ∀ (a : Nat) (c : am_C), σ.1 a = some c → a < σ.2.1
theorem am_set_same (σ : am_H) (a : Nat) (c : am_C) : (am_set σ a c).1 a = some c := by simp [am_set, am_upd]
theorem am_set_ne (σ : am_H) {a b : Nat} (c : am_C) (h : b ≠ a) : (am_set σ a c).1 b = σ.1 b := by simp [am_set, am_upd, h]
theorem am_psh_same (σ : am_H) (c : am_C) (n : Nat) : (am_psh σ c n).1 σ.2.1 = some c := by simp [am_psh, am_upd]
theorem am_psh_ne (σ : am_H) {b : Nat} (c : am_C) (n : Nat) (h : b ≠ σ.2.1) : (am_psh σ c n).1 b = σ.1 b := by simp [am_psh, am_upd, h]
theorem am_set_set (σ : am_H) (a : Nat) (c c' : am_C) : am_set (am_set σ a c) a c' = am_set σ a c' := by
  unfold am_set
  congr 1
  funext q
  simp only [am_upd]
  by_cases h : q = a <;> simp [h]
theorem am_set_psh (σ : am_H) (c c' : am_C) (n : Nat) : am_set (am_psh σ c n) σ.2.1 c' = am_psh σ c' n := by
  unfold am_set am_psh
  congr 1
  funext q
  simp only [am_upd]
  by_cases h : q = σ.2.1 <;> simp [h]
theorem wf.set {σ : am_H} (h : wf σ) {a : Nat} {c0 c : am_C} (ha : σ.1 a = some c0) : wf (am_set σ a c) := by
  intro b c' hb
  by_cases e : b = a
  · subst e
    exact h _ _ ha
  · rw [am_set_ne σ c e] at hb
    exact h _ _ hb
theorem wf.psh {σ : am_H} (h : wf σ) {c : am_C} {n : Nat} : wf (am_psh σ c n) := by
  intro b c' hb
  show b < σ.2.1 + 1
  by_cases e : b = σ.2.1
  · omega
  · rw [am_psh_ne σ c n e] at hb
    have := h _ _ hb
    omega
theorem sb_i2l : ∀ b, b < 256 → (sb_b b).toInt64 &&& 255 = lN b := by decide +kernel
/-- bytes as a number, the lowest first -/
def sp_le (β : Nat → Nat) (p : Nat) : Nat → Nat
  | 0 => 0
  | w + 1 => sp_le β p w + β (p + w) * 2 ^ (8 * w)
theorem sp_le_lt {β : Nat → Nat} {p : Nat} : ∀ {w : Nat}, (∀ i, i < w → β (p + i) < 256) → sp_le β p w < 2 ^ (8 * w)
  | 0, _ => by simp [sp_le]
  | w + 1, h => by
    have h1 := sp_le_lt (w := w) (fun i hi => h i (by omega))
    have h2 := h w (by omega)
    have e : 2 ^ (8 * (w + 1)) = 256 * 2 ^ (8 * w) := by
      rw [show 8 * (w + 1) = 8 + 8 * w by omega, Nat.pow_add]
    simp only [sp_le]
    rw [e]
    have h3 : β (p + w) * 2 ^ (8 * w) ≤ 255 * 2 ^ (8 * w) := Nat.mul_le_mul_right _ (by omega)
    omega
theorem lN_or_add {a b k : Nat} (ha : a < 2 ^ k) (h : a + b * 2 ^ k < 2 ^ 64) : lN a ||| lN (b * 2 ^ k) = lN (a + b * 2 ^ k) := by
  rw [wb_or (by omega) (by omega)]
  have h1 := Nat.two_pow_add_eq_or_of_lt ha b
  rw [Nat.or_comm, Nat.mul_comm b, ← h1, Nat.add_comm]
section P27
variable {g : Nat × Nat} {d : Nat} {σ : am_H} {Q : Option Value → am_H → Prop}
/-- Reader.has -/
theorem c_has {r t N p w e : Nat} {β : Nat → Nat} (hr : σ.1 r = some (.inr (3, [.ref t, .int (nI p)]))) (hb : byf σ.1 t N β) (hw : w < 2 ^ 31) (hp : p ≤ e) (he : e < 2 ^ 30) (hQ : Q (some (.int (if p + w ≤ e ∧ e ≤ N then 1 else 0))) σ) : AW g d 12 (0, [some (.ref r), some (.int (nI w)), some (.int (nI e))], []) σ Q := by
  obtain ⟨n1, f, ha, hf⟩ := hb
  refine aw_run 3 (F' := (3, [some (.ref r), some (.int (nI w)), some (.int (nI e))], [.ref r, .int (nI e), .int (nI w)])) rfl ?_
  refine aw_get rfl hr rfl ?_
  refine aw_run 1 (F' := (7, [some (.ref r), some (.int (nI w)), some (.int (nI e))], [.int (nI e - nI p), .int (nI w)])) rfl ?_
  rw [pk_sub hp]
  refine aw_cgt rfl (fun q => ?_) (fun q => ?_)
  · have q' := (nI_ltI (by omega) (by omega)).mp q
    refine aw_run 1 (F' := (24, [some (.ref r), some (.int (nI w)), some (.int (nI e))], [.int 0])) rfl ?_
    rw [if_neg (fun z => by omega)] at hQ
    exact aw_iret rfl ⟨_, rfl, rfl⟩ hQ
  · have q' : ¬ e - p < w := fun z => q ((nI_ltI (by omega) (by omega)).mpr z)
    refine aw_run 2 (F' := (12, [some (.ref r), some (.int (nI w)), some (.int (nI e))], [.ref r, .int (nI e)])) rfl ?_
    refine aw_get rfl hr rfl ?_
    refine aw_len rfl ha (by decide) ?_
    refine aw_cgt rfl (fun z => ?_) (fun z => ?_)
    · have z' := (nI_ltI (by omega) (by omega)).mp z
      refine aw_run 1 (F' := (24, [some (.ref r), some (.int (nI w)), some (.int (nI e))], [.int 0])) rfl ?_
      rw [if_neg (fun y => by omega)] at hQ
      exact aw_iret rfl ⟨_, rfl, rfl⟩ hQ
    · have z' : ¬ N < e := fun y => z ((nI_ltI (by omega) (by omega)).mpr y)
      refine aw_run 2 (F' := (24, [some (.ref r), some (.int (nI w)), some (.int (nI e))], [.int 1])) rfl ?_
      rw [if_pos ⟨by omega, by omega⟩] at hQ
      exact aw_iret rfl ⟨_, rfl, rfl⟩ hQ
/-- Reader.skipsZero -/
theorem c_skip {r t N p : Nat} {β : Nat → Nat} (hg : g.1 ≤ r) (hr : σ.1 r = some (.inr (3, [.ref t, .int (nI p)]))) (hb : byf σ.1 t N β) (hp : p < N) (h1 : β p = 0 → Q (some (.int 1)) (am_set σ r (.inr (3, [.ref t, .int (nI (p + 1))])))) (h2 : β p ≠ 0 → Q (some (.int 0)) σ) : AW g d 22 (0, [some (.ref r)], []) σ Q := by
  obtain ⟨n1, f, ha, hf⟩ := hb
  obtain ⟨hbp, hfp⟩ := hf p hp
  have e1 : f (nI p).toNatClampNeg = sb_b (β p) := by rw [nI_clamp (by omega), hfp]
  refine aw_run 1 (F' := (1, [some (.ref r)], [.ref r])) rfl ?_
  refine aw_get rfl hr rfl ?_
  refine aw_run 1 (F' := (5, [some (.ref r)], [.ref r, .int (nI p)])) rfl ?_
  refine aw_get rfl hr rfl ?_
  refine aw_len rfl ha (by decide) ?_
  refine aw_cge rfl (fun q => absurd ((nI_leI (by omega) (by omega)).mp q) (by omega)) (fun _ => ?_)
  refine aw_run 1 (F' := (13, [some (.ref r)], [.ref r])) rfl ?_
  refine aw_get rfl hr rfl ?_
  refine aw_run 1 (F' := (17, [some (.ref r)], [.ref r, .ref t])) rfl ?_
  refine aw_get rfl hr rfl ?_
  refine aw_bald rfl ha (vp_in_nI hp (by omega)) ?_
  rw [e1]
  refine aw_zeq rfl (fun q => ?_) (fun q => ?_)
  · have q' : β p = 0 := sb_inj _ hbp 0 (by omega) q
    refine aw_run 2 (F' := (28, [some (.ref r)], [.ref r, .ref r])) rfl ?_
    refine aw_get rfl hr rfl ?_
    refine aw_run 2 (F' := (33, [some (.ref r)], [.int (nI p + 1), .ref r])) rfl ?_
    rw [nI_1]
    refine aw_put rfl hg hr (Nat.le_of_ble_eq_true rfl) rfl rfl ?_
    refine aw_run 1 (F' := (37, [some (.ref r)], [.int 1])) rfl ?_
    exact aw_iret rfl ⟨_, rfl, rfl⟩ (h1 q')
  · refine aw_run 1 (F' := (25, [some (.ref r)], [.int 0])) rfl ?_
    exact aw_iret rfl ⟨_, rfl, rfl⟩ (h2 (fun z => q (by rw [z]; rfl)))
/-- Reader.readNumber: its loop -/
theorem c_numL {r t N p w : Nat} {β : Nat → Nat} (hg : g.1 ≤ r) (hrt : r ≠ t) (hb : byf σ.1 t N β) (hw : w ≤ 8) (hp : p + w ≤ N) (hQ : Q (some (.long (lN (sp_le β p w)))) (am_set σ r (.inr (3, [.ref t, .int (nI (p + w))])))) : ∀ (n i : Nat), i + n = w → AW g d 13 (5, [some (.ref r), some (.int (nI w)), some (.long (lN (sp_le β p i))), none, some (.int (nI i))], []) (am_set σ r (.inr (3, [.ref t, .int (nI (p + i))]))) Q := by
  obtain ⟨n1, f, ha, hf⟩ := hb
  intro n
  induction n with
  | zero =>
    intro i hi
    have e : i = w := by omega
    subst e
    refine aw_run 2 (F' := (8, [some (.ref r), some (.int (nI i)), some (.long (lN (sp_le β p i))), none, some (.int (nI i))], [.int (nI i), .int (nI i)])) rfl ?_
    refine aw_cge rfl (fun _ => ?_) (fun q => absurd (Int32.le_refl _) q)
    refine aw_run 1 (F' := (63, [some (.ref r), some (.int (nI i)), some (.long (lN (sp_le β p i))), none, some (.int (nI i))], [.long (lN (sp_le β p i))])) rfl ?_
    exact aw_lret rfl rfl hQ
  | succ n ih =>
    intro i hi
    have hr := am_set_same σ r (.inr (3, [.ref t, .int (nI (p + i))]))
    have ha' : (am_set σ r (.inr (3, [.ref t, .int (nI (p + i))]))).1 t = some (.inl (1, N, .inl f)) := by rw [am_set_ne _ _ (Ne.symm hrt)]; exact ha
    obtain ⟨hbp, hfp⟩ := hf (p + i) (by omega)
    have e1 : f (nI (p + i)).toNatClampNeg = sb_b (β (p + i)) := by rw [nI_clamp (by omega), hfp]
    refine aw_run 2 (F' := (8, [some (.ref r), some (.int (nI w)), some (.long (lN (sp_le β p i))), none, some (.int (nI i))], [.int (nI w), .int (nI i)])) rfl ?_
    refine aw_cge rfl (fun q => absurd ((nI_leI (by omega) (by omega)).mp q) (by omega)) (fun _ => ?_)
    refine aw_run 1 (F' := (12, [some (.ref r), some (.int (nI w)), some (.long (lN (sp_le β p i))), none, some (.int (nI i))], [.ref r])) rfl ?_
    refine aw_get rfl hr rfl ?_
    refine aw_run 1 (F' := (16, [some (.ref r), some (.int (nI w)), some (.long (lN (sp_le β p i))), none, some (.int (nI i))], [.ref r, .int (nI (p + i))])) rfl ?_
    refine aw_get rfl hr rfl ?_
    refine aw_len rfl ha' (by decide) ?_
    refine aw_cge rfl (fun q => absurd ((nI_leI (by omega) (by omega)).mp q) (by omega)) (fun _ => ?_)
    refine aw_run 2 (F' := (25, [some (.ref r), some (.int (nI w)), some (.long (lN (sp_le β p i))), none, some (.int (nI i))], [.ref r, .long (lN (sp_le β p i))])) rfl ?_
    refine aw_get rfl hr rfl ?_
    refine aw_run 1 (F' := (29, [some (.ref r), some (.int (nI w)), some (.long (lN (sp_le β p i))), none, some (.int (nI i))], [.ref r, .ref t, .long (lN (sp_le β p i))])) rfl ?_
    refine aw_get rfl hr rfl ?_
    refine aw_bald rfl ha' (vp_in_nI (by omega) (by omega)) ?_
    refine aw_run 10 (F' := (47, [some (.ref r), some (.int (nI w)), some (.long (lN (sp_le β p i) ||| (((f (nI (p + i)).toNatClampNeg).toInt64 &&& 255) <<< (((8 : Int32) * nI i).toInt64 &&& 63)))), none, some (.int (nI i))], [.ref r])) rfl ?_
    have hlt := sp_le_lt (β := β) (p := p) (w := i) (fun j hj => (hf (p + j) (by omega)).1)
    have hlt2 := sp_le_lt (β := β) (p := p) (w := i + 1) (fun j hj => (hf (p + j) (by omega)).1)
    have hpw : 2 ^ (8 * (i + 1)) ≤ 2 ^ 64 := Nat.pow_le_pow_right (by decide) (by omega)
    have e2 : lN (sp_le β p i) ||| (((f (nI (p + i)).toNatClampNeg).toInt64 &&& 255) <<< (((8 : Int32) * nI i).toInt64 &&& 63)) = lN (sp_le β p (i + 1)) := by
      rw [e1, sb_i2l _ hbp, show (8 : Int32) * nI i = nI (8 * i) from pk_mul 8 i, wb_shl _ (show 8 * i < 64 by omega)]
      simp only [sp_le] at hlt2 ⊢
      exact lN_or_add hlt (by omega)
    rw [e2]
    refine aw_run 1 (F' := (48, [some (.ref r), some (.int (nI w)), some (.long (lN (sp_le β p (i + 1)))), none, some (.int (nI i))], [.ref r, .ref r])) rfl ?_
    refine aw_get rfl hr rfl ?_
    refine aw_run 2 (F' := (53, [some (.ref r), some (.int (nI w)), some (.long (lN (sp_le β p (i + 1)))), none, some (.int (nI i))], [.int (nI (p + i) + 1), .ref r])) rfl ?_
    rw [nI_1]
    refine aw_put rfl hg hr (Nat.le_of_ble_eq_true rfl) rfl rfl ?_
    rw [am_set_set]
    refine aw_run 2 (F' := (5, [some (.ref r), some (.int (nI w)), some (.long (lN (sp_le β p (i + 1)))), none, some (.int (nI i + 1))], [])) rfl ?_
    rw [nI_1]
    exact ih (i + 1) (by omega)
/-- Reader.readNumber -/
theorem c_num {r t N p w : Nat} {β : Nat → Nat} (hg : g.1 ≤ r) (hr : σ.1 r = some (.inr (3, [.ref t, .int (nI p)]))) (hb : byf σ.1 t N β) (hw : w ≤ 8) (hp : p + w ≤ N) (hQ : Q (some (.long (lN (sp_le β p w)))) (am_set σ r (.inr (3, [.ref t, .int (nI (p + w))])))) : AW g d 13 (0, [some (.ref r), some (.int (nI w)), none, none, none], []) σ Q := by
  have hrt : r ≠ t := by
    intro q
    subst q
    obtain ⟨n1, f, ha, hf⟩ := hb
    rw [hr] at ha
    cases ha
  have hsame : am_set σ r (.inr (3, [.ref t, .int (nI (p + 0))])) = σ := by
    unfold am_set
    have : am_upd σ.1 r (.inr (3, [.ref t, .int (nI (p + 0))])) = σ.1 := by
      funext q
      simp only [am_upd]
      by_cases h : q = r
      · rw [if_pos h, h, hr]
        rfl
      · rw [if_neg h]
    rw [this]
  refine aw_run 4 (F' := (5, [some (.ref r), some (.int (nI w)), some (.long (lN (sp_le β p 0))), none, some (.int (nI 0))], [])) rfl ?_
  have key := c_numL (d := d) hg hrt hb hw hp hQ w 0 (by omega)
  rw [hsame] at key
  exact key
end P27
end
section
section P28
variable {g : Nat × Nat} {d : Nat} {σ : am_H} {Q : Option Value → am_H → Prop}
theorem c_chkl {s e : Nat} (hs : s ≤ e) (he : e < 2 ^ 31) (hQ : Q none σ) : AW g d 101 (0, [some (.int (nI s)), some (.int (nI e))], []) σ Q := by
  refine aw_run 2 (F' := (2, [some (.int (nI s)), some (.int (nI e))], [.int (nI s), .int (nI e)])) rfl ?_
  refine aw_cge rfl (fun _ => ?_) (fun q => absurd ((nI_leI (by omega) (by omega)).mpr hs) q)
  exact aw_vret rfl rfl hQ
theorem c_corb {a N s e : Nat} {β : Nat → Nat} (hga : g.1 ≤ a) (hgn : g.1 ≤ σ.2.1) (hw : wf σ) (hb : byf σ.1 a N β) (hs : s ≤ e) (he : e ≤ N) (hQ : ∀ f' : Nat → Int32, (∀ i, i < e - s → f' i = sb_b (β (s + i))) → Q (some (.ref σ.2.1)) (am_psh σ (.inl (1, e - s, .inl f')) (e - s))) : AW g (d + 1) 100 (0, [some (.ref a), some (.int (nI s)), some (.int (nI e)), none, none], []) σ Q := by
  obtain ⟨n1, f, ha, hf⟩ := hb
  have hlt := hw _ _ ha
  refine aw_run 2 (F' := (2, [some (.ref a), some (.int (nI s)), some (.int (nI e)), none, none], [.int (nI e), .int (nI s)])) rfl ?_
  refine aw_s [.int (nI s), .int (nI e)] [] rfl ⟨by decide, by decide⟩ rfl rfl (Nat.le_of_ble_eq_true rfl) (Nat.le_of_ble_eq_true rfl) ?_
  refine c_chkl hs (by omega) ?_
  refine aw_run 5 (F' := (10, [some (.ref a), some (.int (nI s)), some (.int (nI e)), some (.int (nI e - nI s)), none], [.int (nI e - nI s)])) rfl ?_
  rw [pk_sub hs]
  have hcl : (nI (e - s)).toNatClampNeg = e - s := nI_clamp (by omega)
  refine aw_nwa rfl (nI_pos (by omega)) (by omega) ?_
  rw [hcl]
  have ha' : (am_psh σ (.inl (1, e - s, .inl (fun _ => 0))) (e - s)).1 a = some (.inl (1, N, .inl f)) := by rw [am_psh_ne _ _ _ (by omega)]; exact ha
  refine aw_run 6 (F' := (20, [some (.ref a), some (.int (nI s)), some (.int (nI e)), some (.int (nI (e - s))), some (.ref σ.2.1)], [.ref a, .int 0, .ref σ.2.1, .int (nI s), .ref a])) rfl ?_
  refine aw_len rfl ha' (by decide) ?_
  refine aw_run 3 (F' := (24, [some (.ref a), some (.int (nI s)), some (.int (nI e)), some (.int (nI (e - s))), some (.ref σ.2.1)], [.int (nI (e - s)), .int (nI N - nI s), .int 0, .ref σ.2.1, .int (nI s), .ref a])) rfl ?_
  rw [pk_sub (show s ≤ N by omega)]
  refine aw_min rfl (Nat.le_of_ble_eq_true rfl) (by omega) ?_
  have em : (if nI (e - s) < nI (N - s) then nI (e - s) else nI (N - s)) = nI (e - s) := by
    by_cases q : nI (e - s) < nI (N - s)
    · rw [if_pos q]
    · rw [if_neg q]
      have q' : ¬ e - s < N - s := fun z => q ((nI_ltI (by omega) (by omega)).mpr z)
      rw [show N - s = e - s by omega]
  rw [em]
  have hn := am_psh_same σ (.inl (1, e - s, .inl (fun _ => 0))) (e - s)
  have hc0 : (0 : Int32).toNatClampNeg = 0 := by decide
  refine aw_cpy rfl (Nat.le_of_ble_eq_true rfl) (by omega) hgn hga ha' hn (nI_pos (by omega)) (by decide) (nI_pos (by omega)) (by rw [hcl, nI_clamp (by omega)]; omega) (by rw [hcl, hc0]; omega) (fun i hi => ?_) ?_
  · rw [hcl] at hi
    rw [nI_clamp (by omega), (hf (s + i) (by omega)).2]
    exact sb_fitB _
  · rw [am_set_psh, hcl, hc0, nI_clamp (by omega)]
    refine aw_run 1 (F' := (32, [some (.ref a), some (.int (nI s)), some (.int (nI e)), some (.int (nI (e - s))), some (.ref σ.2.1)], [.ref σ.2.1])) rfl ?_
    refine aw_aret rfl ⟨_, rfl, Or.inr ⟨_, rfl⟩⟩ (hQ _ (fun i hi => ?_))
    rw [pk_cpy_in (Nat.zero_le _) (by omega), Nat.sub_zero, (hf (s + i) (by omega)).2]
theorem c_cor {a N s e : Nat} {β : Nat → Nat} (hga : g.1 ≤ a) (hgn : g.1 ≤ σ.2.1) (hw : wf σ) (hb : byf σ.1 a N β) (hs : s ≤ e) (he : e ≤ N) (hQ : ∀ f' : Nat → Int32, (∀ i, i < e - s → f' i = sb_b (β (s + i))) → Q (some (.ref σ.2.1)) (am_psh σ (.inl (1, e - s, .inl f')) (e - s))) : AW g (d + 2) 99 (0, [some (.ref a), some (.int (nI s)), some (.int (nI e))], []) σ Q := by
  have hb' := hb
  obtain ⟨n1, f, ha, hf⟩ := hb'
  have far : AW g (d + 2) 99 (10, [some (.ref a), some (.int (nI s)), some (.int (nI e))], []) σ Q := by
    refine aw_run 3 (F' := (13, [some (.ref a), some (.int (nI s)), some (.int (nI e))], [.int (nI e), .int (nI s), .ref a])) rfl ?_
    refine aw_s [.ref a, .int (nI s), .int (nI e)] [] rfl ⟨by decide, by decide⟩ rfl rfl (Nat.le_of_ble_eq_true rfl) (Nat.le_of_ble_eq_true rfl) ?_
    refine c_corb hga hgn hw hb hs he (fun f' hf' => ?_)
    exact aw_aret rfl ⟨_, rfl, Or.inr ⟨_, rfl⟩⟩ (hQ f' hf')
  refine aw_run 1 (F' := (1, [some (.ref a), some (.int (nI s)), some (.int (nI e))], [.int (nI s)])) rfl ?_
  refine aw_zne rfl (fun _ => far) (fun q => ?_)
  have q' : s = 0 := (nI_eq (b := 0) (by omega) (by omega)).mp (Decidable.of_not_not q)
  refine aw_run 2 (F' := (6, [some (.ref a), some (.int (nI s)), some (.int (nI e))], [.ref a, .int (nI e)])) rfl ?_
  refine aw_len rfl ha (by decide) ?_
  refine aw_ceq rfl (fun z => ?_) (fun _ => far)
  have z' : e = N := (nI_eq (by omega) (by omega)).mp z
  subst z'
  subst q'
  refine aw_run 1 (F' := (18, [some (.ref a), some (.int (nI 0)), some (.int (nI e))], [.ref a])) rfl ?_
  refine aw_cln rfl (Nat.le_of_ble_eq_true rfl) (by omega) hga ha (fun i hi => by rw [(hf i hi).2]; exact sb_fitB _) ?_
  refine aw_cast rfl hgn (am_psh_same _ _ _) ?_
  exact aw_aret rfl ⟨_, rfl, Or.inr ⟨_, rfl⟩⟩ (hQ f (fun i hi => by rw [Nat.zero_add]; exact (hf i hi).2))
/-- copyOfBytes -/
theorem c_cob {a N s e : Nat} {β : Nat → Nat} (hga : g.1 ≤ a) (hgn : g.1 ≤ σ.2.1) (hw : wf σ) (hb : byf σ.1 a N β) (hs : s ≤ e) (he : e ≤ N) (h0 : s = e → Q (some (.ref g.2)) σ) (hQ : s < e → ∀ f' : Nat → Int32, (∀ i, i < e - s → f' i = sb_b (β (s + i))) → Q (some (.ref σ.2.1)) (am_psh σ (.inl (1, e - s, .inl f')) (e - s))) : AW g (d + 3) 19 (0, [some (.ref a), some (.int (nI s)), some (.int (nI e))], []) σ Q := by
  have hb' := hb
  obtain ⟨n1, f, ha, hf⟩ := hb'
  refine aw_run 1 (F' := (1, [some (.ref a), some (.int (nI s)), some (.int (nI e))], [.int (nI s)])) rfl ?_
  refine aw_zlt rfl (fun q => absurd q (nI_pos (by omega))) (fun _ => ?_)
  refine aw_run 2 (F' := (6, [some (.ref a), some (.int (nI s)), some (.int (nI e))], [.int (nI s), .int (nI e)])) rfl ?_
  refine aw_cle rfl (fun q => ?_) (fun q => ?_)
  · have q' := (nI_leI (by omega) (by omega)).mp q
    refine aw_sta rfl ?_
    exact aw_aret rfl ⟨_, rfl, Or.inr ⟨_, rfl⟩⟩ (h0 (by omega))
  · have q' : ¬ e ≤ s := fun z => q ((nI_leI (by omega) (by omega)).mpr z)
    refine aw_run 2 (F' := (11, [some (.ref a), some (.int (nI s)), some (.int (nI e))], [.ref a, .int (nI e)])) rfl ?_
    refine aw_len rfl ha (by decide) ?_
    refine aw_cle rfl (fun _ => ?_) (fun q => absurd ((nI_leI (by omega) (by omega)).mpr he) q)
    refine aw_run 3 (F' := (22, [some (.ref a), some (.int (nI s)), some (.int (nI e))], [.int (nI e), .int (nI s), .ref a])) rfl ?_
    refine aw_s [.ref a, .int (nI s), .int (nI e)] [] rfl ⟨by decide, by decide⟩ rfl rfl (Nat.le_of_ble_eq_true rfl) (Nat.le_of_ble_eq_true rfl) ?_
    refine c_cor hga hgn hw hb hs he (fun f' hf' => ?_)
    exact aw_aret rfl ⟨_, rfl, Or.inr ⟨_, rfl⟩⟩ (hQ (by omega) f' hf')
/-- Value's constructor -/
theorem c_vnew {v na ba n : Nat} {num : Int64} {kd0 : Int32} {fb : Nat → Int32} {w0 w1 w2 w3 w4 w5 w6 w7 : Value} (hd : 1 ≤ d) (hg : g.1 ≤ v) (hv : σ.1 v = some (.inr (1, [w0, w1, w2, w3, w4, w5, w6, w7]))) (hne : v ≠ ba) (hb : σ.1 ba = some (.inl (1, n, .inl fb))) (hQ : Q none (am_set σ v (.inr (1, [.int kd0, .ref na, .long num, .ref ba, .int (nI n), w5, w6, w7])))) : AW g d 2 (0, [some (.ref v), some (.int kd0), some (.ref na), some (.long num), none, some (.ref ba)], []) σ Q := by
  refine aw_run 1 (F' := (1, [some (.ref v), some (.int kd0), some (.ref na), some (.long num), none, some (.ref ba)], [.ref v])) rfl ?_
  refine aw_obj rfl (Nat.le_of_ble_eq_true rfl) hd ?_
  refine aw_run 2 (F' := (6, [some (.ref v), some (.int kd0), some (.ref na), some (.long num), none, some (.ref ba)], [.int kd0, .ref v])) rfl ?_
  refine aw_put rfl hg hv (Nat.le_of_ble_eq_true rfl) rfl rfl ?_
  refine aw_run 2 (F' := (11, [some (.ref v), some (.int kd0), some (.ref na), some (.long num), none, some (.ref ba)], [.ref na, .ref v])) rfl ?_
  refine aw_put rfl hg (am_set_same _ _ _) (Nat.le_of_ble_eq_true rfl) rfl rfl ?_
  rw [am_set_set]
  refine aw_run 2 (F' := (16, [some (.ref v), some (.int kd0), some (.ref na), some (.long num), none, some (.ref ba)], [.long num, .ref v])) rfl ?_
  refine aw_put rfl hg (am_set_same _ _ _) (Nat.le_of_ble_eq_true rfl) rfl rfl ?_
  rw [am_set_set]
  refine aw_run 2 (F' := (22, [some (.ref v), some (.int kd0), some (.ref na), some (.long num), none, some (.ref ba)], [.ref ba, .ref v])) rfl ?_
  refine aw_put rfl hg (am_set_same _ _ _) (Nat.le_of_ble_eq_true rfl) rfl rfl ?_
  rw [am_set_set]
  refine aw_run 2 (F' := (28, [some (.ref v), some (.int kd0), some (.ref na), some (.long num), none, some (.ref ba)], [.ref ba, .ref v])) rfl ?_
  refine aw_len rfl (show (am_set σ v _).1 ba = _ by rw [am_set_ne _ _ (Ne.symm hne)]; exact hb) (by decide) ?_
  refine aw_put rfl hg (am_set_same _ _ _) (Nat.le_of_ble_eq_true rfl) rfl rfl ?_
  rw [am_set_set]
  exact aw_vret rfl rfl hQ
end P28
end
section
/-! values in a zone of the heap, chains that are being built -/
def ndz (Z : Nat → Prop) (h : Nat → Option am_C) (a : Nat) (b : sp_B) (cnt : Nat) (fi la nx : Option Nat) : Prop := kd b.1 ∧ cnt < 65536 ∧ ∃ (na ba : Nat) (num : Int64), Z na ∧ Z ba ∧ h a = some (.inr (1, [.int (nI b.1), .ref na, .long num, .ref ba, .int (nI cnt), va_rf fi, va_rf la, va_rf nx])) ∧ num.toInt = b.2.2.1 ∧ bya h na b.2.1 ∧ bya h ba b.2.2.2
def frz (Z : Nat → Prop) (h : Nat → Option am_C) : sp_F → Option Nat → Prop
  | .leaf, o => o = none
  | .inner _ b _ c r, o => ∃ (a : Nat) (fi la nx : Option Nat), o = some a ∧ Z a ∧ ndz Z h a b (b.2.2.2.length + sp_len c) fi la nx ∧ frz Z h c fi ∧ frz Z h r nx
def vlz (Z : Nat → Prop) (h : Nat → Option am_C) (a : Nat) (v : sp_V) : Prop := Z a ∧ ∃ (fi la nx : Option Nat), ndz Z h a v.1 (v.1.2.2.2.length + sp_len v.2) fi la nx ∧ frz Z h v.2 fi
theorem ndz.nd {Z : Nat → Prop} {h : Nat → Option am_C} {a : Nat} {b : sp_B} {cnt : Nat} {fi la nx : Option Nat} (q : ndz Z h a b cnt fi la nx) : nd h a b cnt fi la nx := by
  obtain ⟨h1, h2, na, ba, num, -, -, h3⟩ := q
  exact ⟨h1, h2, na, ba, num, h3⟩
theorem frz.fr {Z : Nat → Prop} {h : Nat → Option am_C} : ∀ {c : sp_F} {o : Option Nat}, frz Z h c o → fr h c o
  | .leaf, _, q => q
  | .inner _ _ _ _ _, _, q => by
    obtain ⟨a, fi, la, nx, h1, -, h2, h3, h4⟩ := q
    exact ⟨a, fi, la, nx, h1, h2.nd, frz.fr h3, frz.fr h4⟩
theorem vlz.vl {Z : Nat → Prop} {h : Nat → Option am_C} {a : Nat} {v : sp_V} (q : vlz Z h a v) : vl h a v := by
  obtain ⟨-, fi, la, nx, h1, h2⟩ := q
  exact ⟨fi, la, nx, h1.nd, h2.fr⟩
theorem bya.kept {h h' : Nat → Option am_C} {a : Nat} {l : List Nat} (q : bya h a l) (e : h' a = h a) : bya h' a l := by
  obtain ⟨h1, h2, f, h3, h4⟩ := q
  exact ⟨h1, h2, f, e.trans h3, h4⟩
theorem byf.kept {h h' : Nat → Option am_C} {a n : Nat} {β : Nat → Nat} (q : byf h a n β) (e : h' a = h a) : byf h' a n β := by
  obtain ⟨h1, f, h3, h4⟩ := q
  exact ⟨h1, f, e.trans h3, h4⟩
theorem ndz.kept {Z Z' : Nat → Prop} {h h' : Nat → Option am_C} {a : Nat} {b : sp_B} {cnt : Nat} {fi la nx : Option Nat} (q : ndz Z h a b cnt fi la nx) (ea : h' a = h a) (e : ∀ x, Z x → h' x = h x) (hZ : ∀ x, Z x → Z' x) : ndz Z' h' a b cnt fi la nx := by
  obtain ⟨h1, h2, na, ba, num, z1, z2, h3, h4, h5, h6⟩ := q
  exact ⟨h1, h2, na, ba, num, hZ _ z1, hZ _ z2, ea.trans h3, h4, h5.kept (e _ z1), h6.kept (e _ z2)⟩
theorem frz.kept {Z Z' : Nat → Prop} {h h' : Nat → Option am_C} (e : ∀ x, Z x → h' x = h x) (hZ : ∀ x, Z x → Z' x) : ∀ {c : sp_F} {o : Option Nat}, frz Z h c o → frz Z' h' c o
  | .leaf, _, q => q
  | .inner _ _ _ _ _, _, q => by
    obtain ⟨a, fi, la, nx, h1, z, h2, h3, h4⟩ := q
    exact ⟨a, fi, la, nx, h1, hZ _ z, h2.kept (e _ z) e hZ, frz.kept e hZ h3, frz.kept e hZ h4⟩
theorem vlz.kept {Z Z' : Nat → Prop} {h h' : Nat → Option am_C} {a : Nat} {v : sp_V} (q : vlz Z h a v) (e : ∀ x, Z x → h' x = h x) (hZ : ∀ x, Z x → Z' x) : vlz Z' h' a v := by
  obtain ⟨z, fi, la, nx, h1, h2⟩ := q
  exact ⟨hZ _ z, fi, la, nx, h1.kept (e _ z) e hZ, h2.kept e hZ⟩
def sp_ofL : List sp_V → sp_F
  | [] => .leaf
  | v :: l => .inner 0 v.1 () v.2 (sp_ofL l)
def sp_toL : sp_F → List sp_V
  | .leaf => []
  | .inner _ b _ c r => (b, c) :: sp_toL r
theorem sp_len_ofL : ∀ l : List sp_V, sp_len (sp_ofL l) = l.length
  | [] => rfl
  | _ :: l => by simp [sp_ofL, sp_len, sp_len_ofL l]
/-- the zone of one element: its cells but its own -/
def zx (g : Nat × Nat) (lo hi x : Nat) : Nat → Prop := fun a => (lo ≤ a ∧ a < hi ∧ a ≠ x) ∨ a = g.2
def zn (g : Nat × Nat) (lo hi : Nat) : Nat → Prop := fun a => (lo ≤ a ∧ a < hi) ∨ a = g.2
def elz (g : Nat × Nat) (h : Nat → Option am_C) (lo hi x : Nat) (v : sp_V) (nx : Option Nat) : Prop := lo ≤ x ∧ x < hi ∧ ∃ (fi la : Option Nat), ndz (zx g lo hi x) h x v.1 (v.1.2.2.2.length + sp_len v.2) fi la nx ∧ frz (zx g lo hi x) h v.2 fi
def chn (g : Nat × Nat) (h : Nat → Option am_C) : List sp_V → List Nat → Nat → Nat → Prop
  | [], [], lo, hi => lo ≤ hi
  | v :: l, x :: as, lo, hi => ∃ mid, elz g h lo mid x v as.head? ∧ chn g h l as mid hi
  | _, _, _, _ => False
theorem chn.le {g : Nat × Nat} {h : Nat → Option am_C} : ∀ {l : List sp_V} {as : List Nat} {lo hi : Nat}, chn g h l as lo hi → lo ≤ hi
  | [], [], _, _, q => q
  | _ :: _, _ :: _, _, _, ⟨mid, ⟨h1, h2, _⟩, q⟩ => by
    have := chn.le q
    omega
  | [], _ :: _, _, _, q => q.elim
  | _ :: _, [], _, _, q => q.elim
theorem elz.kept {g : Nat × Nat} {h h' : Nat → Option am_C} {lo hi x : Nat} {v : sp_V} {nx : Option Nat} (q : elz g h lo hi x v nx) (e : ∀ a, lo ≤ a → a < hi → h' a = h a) (eg : h' g.2 = h g.2) : elz g h' lo hi x v nx := by
  obtain ⟨h1, h2, fi, la, h3, h4⟩ := q
  have ez : ∀ a, zx g lo hi x a → h' a = h a := by
    intro a ha
    rcases ha with ⟨a1, a2, -⟩ | rfl
    · exact e a a1 a2
    · exact eg
  exact ⟨h1, h2, fi, la, h3.kept (e x h1 h2) ez (fun _ z => z), h4.kept ez (fun _ z => z)⟩
theorem elz.vlz {g : Nat × Nat} {h : Nat → Option am_C} {lo hi x : Nat} {v : sp_V} {nx : Option Nat} (q : elz g h lo hi x v nx) : vlz (zn g lo hi) h x v := by
  obtain ⟨h1, h2, fi, la, h3, h4⟩ := q
  have ez : ∀ a, zx g lo hi x a → zn g lo hi a := by
    intro a ha
    rcases ha with ⟨a1, a2, -⟩ | rfl
    · exact Or.inl ⟨a1, a2⟩
    · exact Or.inr rfl
  exact ⟨Or.inl ⟨h1, h2⟩, fi, la, nx, h3.kept rfl (fun _ _ => rfl) ez, h4.kept (fun _ _ => rfl) ez⟩
theorem chn.kept {g : Nat × Nat} {h h' : Nat → Option am_C} (eg : h' g.2 = h g.2) : ∀ {l : List sp_V} {as : List Nat} {lo hi : Nat}, (∀ a, lo ≤ a → a < hi → h' a = h a) → chn g h l as lo hi → chn g h' l as lo hi
  | [], [], _, _, _, q => q
  | _ :: _, _ :: _, lo, hi, e, ⟨mid, h1, q⟩ => by
    have hl := q.le
    have := h1.1
    have := h1.2.1
    exact ⟨mid, h1.kept (fun a a1 a2 => e a a1 (by omega)) eg, chn.kept eg (fun a a1 a2 => e a (by omega) a2) q⟩
  | [], _ :: _, _, _, _, q => q.elim
  | _ :: _, [], _, _, _, q => q.elim
theorem chn.frz {g : Nat × Nat} {h : Nat → Option am_C} : ∀ {l : List sp_V} {as : List Nat} {lo hi : Nat}, chn g h l as lo hi → frz (zn g lo hi) h (sp_ofL l) as.head?
  | [], [], _, _, _ => rfl
  | v :: l, x :: as, lo, hi, ⟨mid, h1, q⟩ => by
    have hl := q.le
    have ih := chn.frz q
    obtain ⟨a1, a2, fi, la, h3, h4⟩ := h1
    have e1 : ∀ a, zx g lo mid x a → zn g lo hi a := by
      intro a ha
      rcases ha with ⟨b1, b2, -⟩ | rfl
      · exact Or.inl ⟨b1, by omega⟩
      · exact Or.inr rfl
    have e2 : ∀ a, zn g mid hi a → zn g lo hi a := by
      intro a ha
      rcases ha with ⟨b1, b2⟩ | rfl
      · exact Or.inl ⟨by omega, b2⟩
      · exact Or.inr rfl
    exact ⟨x, fi, la, as.head?, rfl, Or.inl ⟨a1, by omega⟩, h3.kept rfl (fun _ _ => rfl) e1, h4.kept (fun _ _ => rfl) e1, ih.kept (fun _ _ => rfl) e2⟩
  | [], _ :: _, _, _, q => q.elim
  | _ :: _, [], _, _, q => q.elim
/-- the cell of the last one, and what comes when its next is set -/
theorem chn.app {g : Nat × Nat} {h h' : Nat → Option am_C} {x : Nat} {v : sp_V} {mid hi : Nat} (hgm : g.2 < mid) (eg : h' g.2 = h g.2) (hx : elz g h' mid hi x v none) : ∀ {l : List sp_V} {as : List Nat} {lo : Nat}, g.2 < lo → chn g h l as lo mid →
    (∀ a, lo ≤ a → a < mid → as.getLast? ≠ some a → h' a = h a) → (∀ y, as.getLast? = some y → ∀ w : List Value, h y = some (.inr (1, w)) → h' y = some (.inr (1, w.set 7 (.ref x)))) → chn g h' (l ++ [v]) (as ++ [x]) lo hi
  | [], [], lo, _, q, _, _ => by
    have hl : lo ≤ mid := q
    refine ⟨hi, ?_, Nat.le_refl _⟩
    obtain ⟨a1, a2, fi, la, h3, h4⟩ := hx
    have ez : ∀ a, zx g mid hi x a → zx g lo hi x a := by
      intro a ha
      rcases ha with ⟨b1, b2, b3⟩ | rfl
      · exact Or.inl ⟨by omega, b2, b3⟩
      · exact Or.inr rfl
    exact ⟨by omega, a2, fi, la, h3.kept rfl (fun _ _ => rfl) ez, h4.kept (fun _ _ => rfl) ez⟩
  | [v0], [y], lo, hg, ⟨m1, h1, q⟩, e, el => by
    have hl : m1 ≤ mid := q
    obtain ⟨a1, a2, fi, la, h3, h4⟩ := h1
    have ez : ∀ a, zx g lo m1 y a → h' a = h a := by
      intro a ha
      rcases ha with ⟨b1, b2, b3⟩ | rfl
      · exact e a b1 (by omega) (fun z => b3 (by simpa using z.symm))
      · exact eg
    refine ⟨mid, ⟨a1, by omega, fi, la, ?_, ?_⟩, hi, ?_, Nat.le_refl _⟩
    · obtain ⟨k1, k2, na, ba, num, z1, z2, k3, k4, k5, k6⟩ := h3
      have ez2 : ∀ a, zx g lo m1 y a → zx g lo mid y a := by
        intro a ha
        rcases ha with ⟨b1, b2, b3⟩ | rfl
        · exact Or.inl ⟨b1, by omega, b3⟩
        · exact Or.inr rfl
      exact ⟨k1, k2, na, ba, num, ez2 _ z1, ez2 _ z2, el y rfl _ k3, k4, k5.kept (ez _ z1), k6.kept (ez _ z2)⟩
    · refine h4.kept ez ?_
      intro a ha
      rcases ha with ⟨b1, b2, b3⟩ | rfl
      · exact Or.inl ⟨b1, by omega, b3⟩
      · exact Or.inr rfl
    · exact hx
  | v0 :: v1 :: l, y :: y1 :: as, lo, hg, ⟨m1, h1, q⟩, e, el => by
    have hl := q.le
    have b1 := h1.1
    have b2 := h1.2.1
    have lastin : ∀ {l : List sp_V} {as : List Nat} {lo hi : Nat} {z : Nat}, chn g h l as lo hi → as.getLast? = some z → lo ≤ z := by
      intro l
      induction l with
      | nil =>
        intro as lo hi z q hz
        cases as with
        | nil => cases hz
        | cons _ _ => exact q.elim
      | cons v l ih =>
        intro as lo hi z q hz
        cases as with
        | nil => exact q.elim
        | cons y as =>
          obtain ⟨m, ⟨c1, c2, -⟩, q⟩ := q
          cases as with
          | nil =>
            simp at hz
            omega
          | cons y2 as =>
            have := ih q (by simpa using hz)
            omega
    refine ⟨m1, h1.kept (fun a a1 a2 => e a a1 (by omega) (fun z => ?_)) eg, ?_⟩
    · have := lastin q (z := a) (by simpa using z)
      omega
    · refine chn.app hgm eg hx (l := v1 :: l) (as := y1 :: as) (by omega) q (fun a a1 a2 a3 => e a (by omega) a2 (fun z => a3 (by simpa using z))) (fun z hz w hw => el z (by simpa using hz) w hw)
  | [], _ :: _, _, _, q, _, _ => q.elim
  | _ :: _, [], _, _, q, _, _ => q.elim
  | [_], _ :: _ :: _, _, _, ⟨_, _, q⟩, _, _ => q.elim
  | _ :: _ :: _, [_], _, _, ⟨_, _, q⟩, _, _ => q.elim
end
section
def sp_fnd (nm : List Nat) : sp_F → Option sp_V
  | .leaf => none
  | .inner _ b _ c r => if b.2.1 = nm then some (b, c) else sp_fnd nm r
theorem sp_bc_eq0 : ∀ {l l' : List Nat}, sp_bc l l' = 0 → l = l'
  | [], [], _ => rfl
  | [], _ :: _, h => by simp only [sp_bc] at h; exact absurd h (by decide)
  | _ :: _, [], h => by simp only [sp_bc] at h; exact absurd h (by decide)
  | a :: x, b :: y, h => by
    simp only [sp_bc] at h
    by_cases q : sp_nc a b = 0
    · rw [q, sp_or_0] at h
      rw [sp_bc_eq0 h]
      have : a = b := by
        unfold sp_nc at q
        by_cases z : a < b
        · rw [if_pos z] at q; exact absurd q (by decide)
        · rw [if_neg z] at q
          by_cases z2 : a = b
          · exact z2
          · rw [if_neg z2] at q; exact absurd q (by decide)
      rw [this]
    · rw [sp_or_n q] at h
      exact absurd h q
theorem sp_bc_self : ∀ l : List Nat, sp_bc l l = 0
  | [] => rfl
  | a :: x => by
    simp only [sp_bc]
    rw [show sp_nc a a = 0 by simp [sp_nc], sp_or_0]
    exact sp_bc_self x
section P30
variable {g : Nat × Nat} {d : Nat} {σ : am_H} {Q : Option Value → am_H → Prop}
/-- Value.elementNamed: its loop -/
theorem c_elemL {Z : Nat → Prop} {a w : Nat} {nm : List Nat} (hw : bya σ.1 w nm) : ∀ (c : sp_F) (o : Option Nat), frz Z σ.1 c o → (sp_fnd nm c = none → Q (some .null) σ) → (∀ x v, sp_fnd nm c = some v → vlz Z σ.1 x v → Q (some (.ref x)) σ) → AW g (d + 2) 25 (5, [some (.ref a), some (.ref w), some (va_rf o)], []) σ Q := by
  intro c
  induction c with
  | leaf =>
    intro o hc hN hS
    have ho : o = none := hc
    subst ho
    refine aw_run 1 (F' := (6, [some (.ref a), some (.ref w), some .null], [.null])) rfl ?_
    refine aw_ifnull_n rfl ?_
    refine aw_run 1 (F' := (31, [some (.ref a), some (.ref w), some .null], [.null])) rfl ?_
    exact aw_nret rfl ⟨_, rfl, Or.inl ⟨_, rfl⟩⟩ (hN rfl)
  | inner s b u c r ihc ihr =>
    intro o hc hN hS
    obtain ⟨x, fi, la, nx, ho, hz, hn, hf, hr⟩ := hc
    subst ho
    have hn' := hn
    obtain ⟨k1, k2, na, ba, num, z1, z2, hx, hnum, hna, hba⟩ := hn'
    refine aw_run 1 (F' := (6, [some (.ref a), some (.ref w), some (.ref x)], [.ref x])) rfl ?_
    refine aw_ifnull_r rfl ?_
    refine aw_run 1 (F' := (10, [some (.ref a), some (.ref w), some (.ref x)], [.ref x])) rfl ?_
    refine aw_get rfl hx rfl ?_
    refine aw_run 1 (F' := (14, [some (.ref a), some (.ref w), some (.ref x)], [.ref w, .ref na])) rfl ?_
    refine aw_s [.ref na, .ref w] [] rfl ⟨by decide, by decide⟩ rfl rfl (Nat.le_of_ble_eq_true rfl) (Nat.le_of_ble_eq_true rfl) ?_
    refine c_ofBytes hna hw ?_
    refine aw_zne rfl (fun q => ?_) (fun q => ?_)
    · have hne : ¬ b.2.1 = nm := fun z => q (by rw [z]; exact sp_bc_self _)
      simp only [sp_fnd, if_neg hne] at hN hS
      refine aw_run 1 (F' := (23, [some (.ref a), some (.ref w), some (.ref x)], [.ref x])) rfl ?_
      refine aw_get rfl hx rfl ?_
      have key := ihr nx hr hN hS
      rcases nx with _ | y
      · refine aw_run 2 (F' := (5, [some (.ref a), some (.ref w), some .null], [])) rfl ?_
        exact key
      · refine aw_run 2 (F' := (5, [some (.ref a), some (.ref w), some (.ref y)], [])) rfl ?_
        exact key
    · have he : b.2.1 = nm := sp_bc_eq0 (Decidable.of_not_not q)
      simp only [sp_fnd, if_pos he] at hS
      refine aw_run 1 (F' := (21, [some (.ref a), some (.ref w), some (.ref x)], [.ref x])) rfl ?_
      exact aw_aret rfl ⟨_, rfl, Or.inl ⟨_, rfl⟩⟩ (hS x (b, c) rfl ⟨hz, fi, la, nx, hn, hf⟩)
/-- Value.elementNamed -/
theorem c_elem {Z : Nat → Prop} {a w : Nat} {nm : List Nat} {c : sp_F} {fi : Option Nat} {w0 w1 w2 w3 w4 w6 w7 : Value} (ha : σ.1 a = some (.inr (1, [w0, w1, w2, w3, w4, va_rf fi, w6, w7]))) (hw : bya σ.1 w nm) (hc : frz Z σ.1 c fi) (hN : sp_fnd nm c = none → Q (some .null) σ) (hS : ∀ x v, sp_fnd nm c = some v → vlz Z σ.1 x v → Q (some (.ref x)) σ) : AW g (d + 2) 25 (0, [some (.ref a), some (.ref w), none], []) σ Q := by
  refine aw_run 1 (F' := (1, [some (.ref a), some (.ref w), none], [.ref a])) rfl ?_
  refine aw_get rfl ha rfl ?_
  have key := c_elemL (g := g) (d := d) (Q := Q) (a := a) hw c fi hc hN hS
  rcases fi with _ | y
  · refine aw_run 1 (F' := (5, [some (.ref a), some (.ref w), some .null], [])) rfl ?_
    exact key
  · refine aw_run 1 (F' := (5, [some (.ref a), some (.ref w), some (.ref y)], [])) rfl ?_
    exact key
/-- Value.append: the first -/
theorem c_app1 {a x cnt : Nat} {w0 w1 w2 w3 w5 w7 : Value} (hg : g.1 ≤ a) (hc : cnt < 65536) (ha : σ.1 a = some (.inr (1, [w0, w1, w2, w3, .int (nI cnt), w5, .null, w7]))) (hQ : Q none (am_set σ a (.inr (1, [w0, w1, w2, w3, .int (nI (cnt + 1)), .ref x, .ref x, w7])))) : AW g d 27 (0, [some (.ref a), some (.ref x)], []) σ Q := by
  refine aw_run 1 (F' := (1, [some (.ref a), some (.ref x)], [.ref a])) rfl ?_
  refine aw_get rfl ha rfl ?_
  refine aw_ifnon_n rfl ?_
  refine aw_run 2 (F' := (9, [some (.ref a), some (.ref x)], [.ref x, .ref a])) rfl ?_
  refine aw_put rfl hg ha (Nat.le_of_ble_eq_true rfl) rfl rfl ?_
  refine aw_run 3 (F' := (25, [some (.ref a), some (.ref x)], [.ref x, .ref a])) rfl ?_
  refine aw_put rfl hg (am_set_same _ _ _) (Nat.le_of_ble_eq_true rfl) rfl rfl ?_
  rw [am_set_set]
  refine aw_run 2 (F' := (30, [some (.ref a), some (.ref x)], [.ref a, .ref a])) rfl ?_
  refine aw_get rfl (am_set_same _ _ _) rfl ?_
  refine aw_run 2 (F' := (35, [some (.ref a), some (.ref x)], [.int (nI cnt + 1), .ref a])) rfl ?_
  rw [nI_1]
  refine aw_put rfl hg (am_set_same _ _ _) (Nat.le_of_ble_eq_true rfl) rfl rfl ?_
  rw [am_set_set]
  exact aw_vret rfl rfl hQ
/-- Value.append: behind others -/
theorem c_app2 {a x y cnt : Nat} {w0 w1 w2 w3 w5 w7 : Value} {v0 v1 v2 v3 v4 v5 v6 v7 : Value} (hg : g.1 ≤ a) (hgy : g.1 ≤ y) (hne : y ≠ a) (hc : cnt < 65536) (ha : σ.1 a = some (.inr (1, [w0, w1, w2, w3, .int (nI cnt), w5, .ref y, w7]))) (hy : σ.1 y = some (.inr (1, [v0, v1, v2, v3, v4, v5, v6, v7]))) (hQ : Q none (am_set (am_set σ y (.inr (1, [v0, v1, v2, v3, v4, v5, v6, .ref x]))) a (.inr (1, [w0, w1, w2, w3, .int (nI (cnt + 1)), w5, .ref x, w7])))) : AW g d 27 (0, [some (.ref a), some (.ref x)], []) σ Q := by
  refine aw_run 1 (F' := (1, [some (.ref a), some (.ref x)], [.ref a])) rfl ?_
  refine aw_get rfl ha rfl ?_
  refine aw_ifnon_r rfl ?_
  refine aw_run 1 (F' := (16, [some (.ref a), some (.ref x)], [.ref a])) rfl ?_
  refine aw_get rfl ha rfl ?_
  refine aw_run 1 (F' := (20, [some (.ref a), some (.ref x)], [.ref x, .ref y])) rfl ?_
  refine aw_put rfl hgy hy (Nat.le_of_ble_eq_true rfl) rfl rfl ?_
  have ha2 : (am_set σ y (.inr (1, [v0, v1, v2, v3, v4, v5, v6, .ref x]))).1 a = some (.inr (1, [w0, w1, w2, w3, .int (nI cnt), w5, .ref y, w7])) := by rw [am_set_ne _ _ (Ne.symm hne)]; exact ha
  refine aw_run 2 (F' := (25, [some (.ref a), some (.ref x)], [.ref x, .ref a])) rfl ?_
  refine aw_put rfl hg ha2 (Nat.le_of_ble_eq_true rfl) rfl rfl ?_
  refine aw_run 2 (F' := (30, [some (.ref a), some (.ref x)], [.ref a, .ref a])) rfl ?_
  refine aw_get rfl (am_set_same _ _ _) rfl ?_
  refine aw_run 2 (F' := (35, [some (.ref a), some (.ref x)], [.int (nI cnt + 1), .ref a])) rfl ?_
  rw [nI_1]
  refine aw_put rfl hg (am_set_same _ _ _) (Nat.le_of_ble_eq_true rfl) rfl rfl ?_
  rw [am_set_set]
  exact aw_vret rfl rfl hQ
end P30
/-! where a name ends -/
def sp_ne (β : Nat → Nat) : Nat → Nat → Nat → Option Nat
  | 0, _, _ => none
  | n + 1, s, e => if e ≤ s then none else if β s = 0 then some s else sp_ne β n (s + 1) e
theorem sp_ne_ge (β : Nat → Nat) : ∀ (n s e q : Nat), sp_ne β n s e = some q → s ≤ q ∧ q < e ∧ β q = 0 ∧ ∀ i, s ≤ i → i < q → β i ≠ 0
  | 0, _, _, _, h => by cases h
  | n + 1, s, e, q, h => by
    simp only [sp_ne] at h
    by_cases h1 : e ≤ s
    · rw [if_pos h1] at h; cases h
    · rw [if_neg h1] at h
      by_cases h2 : β s = 0
      · rw [if_pos h2] at h
        cases h
        exact ⟨Nat.le_refl _, by omega, h2, fun i a b => by omega⟩
      · rw [if_neg h2] at h
        obtain ⟨a1, a2, a3, a4⟩ := sp_ne_ge β n (s + 1) e q h
        refine ⟨by omega, a2, a3, fun i b1 b2 => ?_⟩
        by_cases e1 : i = s
        · subst e1; exact h2
        · exact a4 i (by omega) b2
/-- the bytes from s to e -/
def sp_sub (β : Nat → Nat) (s e : Nat) : List Nat := (List.range (e - s)).map (fun i => β (s + i))
theorem sp_sub_len (β : Nat → Nat) (s e : Nat) : (sp_sub β s e).length = e - s := by simp [sp_sub]
theorem sp_sub_get {β : Nat → Nat} {s e i : Nat} (h : i < e - s) : (sp_sub β s e).getD i 0 = β (s + i) := by
  rw [List.getD_eq_getElem?_getD]
  simp [sp_sub, h]
/-- the heap behind a step of the reader -/
def rdx (g : Nat × Nat) (r t : Nat) (σ σ' : am_H) (p k m : Nat) : Prop := σ'.1 r = some (.inr (3, [.ref t, .int (nI p)])) ∧ (∀ a, a < σ.2.1 → a ≠ r → σ'.1 a = σ.1 a) ∧ σ.2.1 ≤ σ'.2.1 ∧ σ'.2.1 ≤ σ.2.1 + k ∧ σ.2.2 ≤ σ'.2.2 ∧ σ'.2.2 ≤ σ.2.2 + m ∧ wf σ'
theorem rdx.trans {g : Nat × Nat} {r t : Nat} {σ σ' σ'' : am_H} {p p' k k' m m' : Nat} (h : rdx g r t σ σ' p k m) (h' : rdx g r t σ' σ'' p' k' m') : rdx g r t σ σ'' p' (k + k') (m + m') := by
  obtain ⟨a1, a2, a3, a4, a5, a6, a7⟩ := h
  obtain ⟨b1, b2, b3, b4, b5, b6, b7⟩ := h'
  exact ⟨b1, fun a h1 h2 => (b2 a (by omega) h2).trans (a2 a h1 h2), by omega, by omega, by omega, by omega, b7⟩
theorem rdx.at {g : Nat × Nat} {r t : Nat} {σ : am_H} {p p' : Nat} (hw : wf σ) (hr : σ.1 r = some (.inr (3, [.ref t, .int (nI p)]))) : rdx g r t σ (am_set σ r (.inr (3, [.ref t, .int (nI p')]))) p' 0 0 := ⟨am_set_same _ _ _, fun a _ h2 => am_set_ne _ _ h2, Nat.le_refl _, Nat.le_refl _, Nat.le_refl _, Nat.le_refl _, hw.set hr⟩
theorem rdx.mono {g : Nat × Nat} {r t : Nat} {σ σ' : am_H} {p k m k' m' : Nat} (h : rdx g r t σ σ' p k m) (hk : k ≤ k') (hm : m ≤ m') : rdx g r t σ σ' p k' m' := by
  obtain ⟨a1, a2, a3, a4, a5, a6, a7⟩ := h
  exact ⟨a1, a2, a3, by omega, a5, by omega, a7⟩
end
section
def sp_nm (β : Nat → Nat) (p e : Nat) : Option Nat := match sp_ne β (e - p + 1) p e with
  | some s => if sp_tx β (s - p) p s then some s else none
  | none => none
theorem sp_nm_of {β : Nat → Nat} {p e s : Nat} (h : sp_nm β p e = some s) : p ≤ s ∧ s < e ∧ β s = 0 ∧ (∀ i, p ≤ i → i < s → β i ≠ 0) ∧ sp_tx β (s - p) p s = true := by
  unfold sp_nm at h
  split at h
  · rename_i q hq
    split at h
    · rename_i ht
      cases h
      obtain ⟨a, b, c, e'⟩ := sp_ne_ge _ _ _ _ _ hq
      exact ⟨a, b, c, e', ht⟩
    · cases h
  · cases h
theorem bya_sub {h : Nat → Option am_C} {a s e : Nat} {β : Nat → Nat} {f' : Nat → Int32} (hl : e - s < 65536) (hb : ∀ i, i < e - s → β (s + i) < 256) (hc : h a = some (.inl (1, e - s, .inl f'))) (hf : ∀ i, i < e - s → f' i = sb_b (β (s + i))) : bya h a (sp_sub β s e) := by
  refine ⟨by rw [sp_sub_len]; exact hl, fun x hx => ?_, f', by rw [sp_sub_len]; exact hc, fun i hi => ?_⟩
  · unfold sp_sub at hx
    obtain ⟨i, hi, rfl⟩ := List.mem_map.mp hx
    exact hb i (List.mem_range.mp hi)
  · rw [sp_sub_len] at hi
    rw [sp_sub_get hi]
    exact hf i hi
section P31
variable {g : Nat × Nat} {d : Nat} {σ : am_H} {Q : Option Value → am_H → Prop}
/-- copyOfBytes, as a list -/
theorem c_cobL {a N s e : Nat} {β : Nat → Nat} (hga : g.1 ≤ a) (hgn : g.1 ≤ σ.2.1) (hw : wf σ) (hb : byf σ.1 a N β) (hs : s ≤ e) (he : e ≤ N) (hnb : bya σ.1 g.2 []) (hQ : ∀ (na : Nat) (σ' : am_H), bya σ'.1 na (sp_sub β s e) → ((σ.2.1 ≤ na ∧ na < σ'.2.1) ∨ na = g.2) → (∀ b, b < σ.2.1 → σ'.1 b = σ.1 b) → σ.2.1 ≤ σ'.2.1 → σ'.2.1 ≤ σ.2.1 + 1 → σ.2.2 ≤ σ'.2.2 → σ'.2.2 ≤ σ.2.2 + (e - s) → wf σ' → Q (some (.ref na)) σ') : AW g (d + 3) 19 (0, [some (.ref a), some (.int (nI s)), some (.int (nI e))], []) σ Q := by
  have hb' := hb
  obtain ⟨n1, f, ha, hf⟩ := hb'
  refine c_cob hga hgn hw hb hs he (fun q => ?_) (fun q f' hf' => ?_)
  · subst q
    have e0 : sp_sub β s s = [] := by simp [sp_sub]
    exact hQ g.2 σ (by rw [e0]; exact hnb) (Or.inr rfl) (fun _ _ => rfl) (Nat.le_refl _) (Nat.le_succ _) (Nat.le_refl _) (Nat.le_add_right _ _) hw
  · refine hQ σ.2.1 _ (bya_sub (by omega) (fun i hi => (hf (s + i) (by omega)).1) (am_psh_same _ _ _) hf') (Or.inl ⟨Nat.le_refl _, Nat.lt_succ_self _⟩) (fun b hb => am_psh_ne _ _ _ (by omega)) (Nat.le_succ _) (Nat.le_refl _) (Nat.le_add_right _ _) (Nat.le_refl _) hw.psh
/-- Reader.readName: its loop -/
theorem c_rnmL {r t N p e : Nat} {β : Nat → Nat} (hr : σ.1 r = some (.inr (3, [.ref t, .int (nI p)]))) (hb : byf σ.1 t N β) (he : e ≤ N) (hN : sp_ne β (e - p + 1) p e = none → AW g d 15 (36, [some (.ref r), some (.int (nI e)), some (.int (nI p)), some (.int (nI e))], []) σ Q) (hS : ∀ s, sp_ne β (e - p + 1) p e = some s → AW g d 15 (36, [some (.ref r), some (.int (nI e)), some (.int (nI p)), some (.int (nI s))], []) σ Q) : ∀ (n i : Nat), e - i < n → i ≤ e → sp_ne β (e - p + 1) p e = sp_ne β n i e → AW g d 15 (7, [some (.ref r), some (.int (nI e)), some (.int (nI p)), some (.int (nI i))], []) σ Q := by
  obtain ⟨n1, f, ha, hf⟩ := hb
  intro n
  induction n with
  | zero => intro i h; omega
  | succ n ih =>
    intro i hn hi heq
    refine aw_run 2 (F' := (9, [some (.ref r), some (.int (nI e)), some (.int (nI p)), some (.int (nI i))], [.int (nI e), .int (nI i)])) rfl ?_
    simp only [sp_ne] at heq
    refine aw_cge rfl (fun q => ?_) (fun q => ?_)
    · have q' := (nI_leI (by omega) (by omega)).mp q
      have ei : i = e := by omega
      subst ei
      rw [if_pos (Nat.le_refl _)] at heq
      exact hN heq
    · have q' : ¬ e ≤ i := fun z => q ((nI_leI (by omega) (by omega)).mpr z)
      rw [if_neg q'] at heq
      refine aw_run 2 (F' := (14, [some (.ref r), some (.int (nI e)), some (.int (nI p)), some (.int (nI i))], [.ref r, .int (nI i)])) rfl ?_
      refine aw_get rfl hr rfl ?_
      refine aw_len rfl ha (by decide) ?_
      refine aw_cge rfl (fun z => absurd ((nI_leI (by omega) (by omega)).mp z) (by omega)) (fun _ => ?_)
      obtain ⟨hbi, hfi⟩ := hf i (by omega)
      have e1 : f (nI i).toNatClampNeg = sb_b (β i) := by rw [nI_clamp (by omega), hfi]
      refine aw_run 1 (F' := (22, [some (.ref r), some (.int (nI e)), some (.int (nI p)), some (.int (nI i))], [.ref r])) rfl ?_
      refine aw_get rfl hr rfl ?_
      refine aw_run 1 (F' := (26, [some (.ref r), some (.int (nI e)), some (.int (nI p)), some (.int (nI i))], [.int (nI i), .ref t])) rfl ?_
      refine aw_bald rfl ha (vp_in_nI (by omega) (by omega)) ?_
      rw [e1]
      refine aw_zeq rfl (fun z => ?_) (fun z => ?_)
      · have z' : β i = 0 := sb_inj _ hbi 0 (by omega) z
        rw [if_pos z'] at heq
        exact hS i heq
      · have z' : ¬ β i = 0 := fun y => z (by rw [y]; rfl)
        rw [if_neg z'] at heq
        refine aw_run 2 (F' := (7, [some (.ref r), some (.int (nI e)), some (.int (nI p)), some (.int (nI i + 1))], [])) rfl ?_
        rw [nI_1]
        exact ih (i + 1) (by omega) (by omega) heq
/-- Reader.readName -/
theorem c_rnm {r t N p e : Nat} {β : Nat → Nat} (hg : g.1 ≤ r) (hgt : g.1 ≤ t) (hgn : g.1 ≤ σ.2.1) (hg2 : g.2 < g.1) (hw : wf σ) (hr : σ.1 r = some (.inr (3, [.ref t, .int (nI p)]))) (hb : byf σ.1 t N β) (hnb : bya σ.1 g.2 []) (hp : p ≤ e) (he : e ≤ N) (hN : sp_nm β p e = none → Q (some .null) σ) (hS : ∀ (s na : Nat) (σ' : am_H), sp_nm β p e = some s → rdx g r t σ σ' (s + 1) 1 (s - p) → bya σ'.1 na (sp_sub β p s) → ((σ.2.1 ≤ na ∧ na < σ'.2.1) ∨ na = g.2) → Q (some (.ref na)) σ') : AW g (d + 4) 15 (0, [some (.ref r), some (.int (nI e)), none, none], []) σ Q := by
  have hb' := hb
  obtain ⟨n1, f, ha, hf⟩ := hb'
  have hrt : t ≠ r := by
    intro q
    subst q
    rw [hr] at ha
    cases ha
  refine aw_run 1 (F' := (1, [some (.ref r), some (.int (nI e)), none, none], [.ref r])) rfl ?_
  refine aw_get rfl hr rfl ?_
  refine aw_run 3 (F' := (7, [some (.ref r), some (.int (nI e)), some (.int (nI p)), some (.int (nI p))], [])) rfl ?_
  refine c_rnmL hr hb he (fun q => ?_) (fun s q => ?_) (e - p + 1) p (by omega) hp rfl
  · refine aw_run 2 (F' := (38, [some (.ref r), some (.int (nI e)), some (.int (nI p)), some (.int (nI e))], [.int (nI e), .int (nI e)])) rfl ?_
    refine aw_cge rfl (fun _ => ?_) (fun z => absurd (Int32.le_refl _) z)
    refine aw_run 1 (F' := (54, [some (.ref r), some (.int (nI e)), some (.int (nI p)), some (.int (nI e))], [.null])) rfl ?_
    exact aw_nret rfl ⟨_, rfl, Or.inr ⟨_, rfl⟩⟩ (hN (by unfold sp_nm; rw [q]))
  · obtain ⟨s1, s2, s3, s4⟩ := sp_ne_ge _ _ _ _ _ q
    refine aw_run 2 (F' := (38, [some (.ref r), some (.int (nI e)), some (.int (nI p)), some (.int (nI s))], [.int (nI e), .int (nI s)])) rfl ?_
    refine aw_cge rfl (fun z => absurd ((nI_leI (by omega) (by omega)).mp z) (by omega)) (fun _ => ?_)
    refine aw_run 1 (F' := (42, [some (.ref r), some (.int (nI e)), some (.int (nI p)), some (.int (nI s))], [.ref r])) rfl ?_
    refine aw_get rfl hr rfl ?_
    refine aw_run 2 (F' := (47, [some (.ref r), some (.int (nI e)), some (.int (nI p)), some (.int (nI s))], [.int (nI s), .int (nI p), .ref t])) rfl ?_
    refine aw_s [.ref t, .int (nI p), .int (nI s)] [] rfl ⟨by decide, by decide⟩ rfl rfl (Nat.le_of_ble_eq_true rfl) (Nat.le_of_ble_eq_true rfl) ?_
    refine c_isRight hb (by omega) (by omega) ?_
    by_cases ht : sp_tx β (s - p) p s = true
    · rw [if_pos ht]
      refine aw_zne rfl (fun _ => ?_) (fun z => absurd (by decide) z)
      refine aw_run 4 (F' := (59, [some (.ref r), some (.int (nI e)), some (.int (nI p)), some (.int (nI s))], [.int (nI s + 1), .ref r])) rfl ?_
      rw [nI_1]
      refine aw_put rfl hg hr (Nat.le_of_ble_eq_true rfl) rfl rfl ?_
      refine aw_run 1 (F' := (63, [some (.ref r), some (.int (nI e)), some (.int (nI p)), some (.int (nI s))], [.ref r])) rfl ?_
      refine aw_get rfl (am_set_same _ _ _) rfl ?_
      refine aw_run 2 (F' := (68, [some (.ref r), some (.int (nI e)), some (.int (nI p)), some (.int (nI s))], [.int (nI s), .int (nI p), .ref t])) rfl ?_
      refine aw_s [.ref t, .int (nI p), .int (nI s)] [] rfl ⟨by decide, by decide⟩ rfl rfl (Nat.le_of_ble_eq_true rfl) (Nat.le_of_ble_eq_true rfl) ?_
      refine c_cobL hgt hgn (hw.set hr) (hb.kept (am_set_ne _ _ hrt)) s1 (by omega) (hnb.kept (am_set_ne _ _ (by omega))) (fun na σ' b1 b2 b3 b4 b5 b6 b7 b8 => ?_)
      refine aw_aret rfl ⟨_, rfl, Or.inr ⟨_, rfl⟩⟩ (hS s na σ' (by unfold sp_nm; rw [q]; simp [ht]) ⟨?_, fun a a1 a2 => ?_, b4, b5, b6, b7, b8⟩ b1 b2)
      · rw [b3 r (hw _ _ hr)]
        exact am_set_same _ _ _
      · rw [b3 a a1]
        exact am_set_ne _ _ a2
    · rw [if_neg ht]
      refine aw_zne rfl (fun z => absurd rfl z) (fun _ => ?_)
      refine aw_run 1 (F' := (54, [some (.ref r), some (.int (nI e)), some (.int (nI p)), some (.int (nI s))], [.null])) rfl ?_
      exact aw_nret rfl ⟨_, rfl, Or.inr ⟨_, rfl⟩⟩ (hN (by unfold sp_nm; rw [q]; simp [ht]))
end P31
end
section
/-- a value without elements, just made -/
def lfx (g : Nat × Nat) (σ' : am_H) (lo x k na : Nat) (num : Int64) (txt : List Nat) : Prop := lo ≤ x ∧ x < σ'.2.1 ∧ ∃ ba, zx g lo σ'.2.1 x ba ∧ bya σ'.1 ba txt ∧ σ'.1 x = some (.inr (1, [.int (nI k), .ref na, .long num, .ref ba, .int (nI txt.length), .null, .null, .null]))
theorem lN_toInt64 {u : Nat} (h : u < 2 ^ 63) : (lN u).toInt = (u : Int) := pk_lT h
section P32
variable {g : Nat × Nat} {d : Nat} {σ : am_H} {Q : Option Value → am_H → Prop}
/-- new Value(k, na, num, NO_BYTES), the cell made and all pushed: the call of the constructor -/
theorem c_mk0 {y pc i v0' na k : Nat} {L : am_L} {rest : List Value} {num : Int64} (hd : True) (hg1 : g.1 ≤ σ.2.1) (hg2 : g.2 < g.1) (hw : wf σ) (hnb : bya σ.1 g.2 []) (hQ : ∀ σ' : am_H, σ'.1 σ.2.1 = some (.inr (1, [.int (nI k), .ref na, .long num, .ref g.2, .int (nI 0), .null, .null, .null])) → (∀ b, b < σ.2.1 → σ'.1 b = σ.1 b) → σ'.2.1 = σ.2.1 + 1 → σ'.2.2 = σ.2.2 + 8 → wf σ' → Q none σ') : AW g (d + 1) 2 (0, [some (.ref σ.2.1), some (.int (nI k)), some (.ref na), some (.long num), none, some (.ref g.2)], []) (am_psh σ (.inr (1, am_def 1)) (am_nf 1)) Q := by
  obtain ⟨-, -, f0, hf0, -⟩ := hnb
  refine c_vnew (d := d + 1) (w0 := .int 0) (w1 := .null) (w2 := .long 0) (w3 := .null) (w4 := .int 0) (w5 := .null) (w6 := .null) (w7 := .null) (n := 0) (fb := f0) (by omega) hg1 (am_psh_same _ _ _) (by omega) (by rw [am_psh_ne _ _ _ (by omega)]; exact hf0) ?_
  rw [am_set_psh]
  exact hQ _ (am_psh_same _ _ _) (fun b hb => am_psh_ne _ _ _ (by omega)) rfl rfl hw.psh
/-- Reader.readTruth -/
theorem c_rtr {r t N p e na : Nat} {β : Nat → Nat} (hg : g.1 ≤ r) (hgn : g.1 ≤ σ.2.1) (hg2 : g.2 < g.1) (hw : wf σ) (hr : σ.1 r = some (.inr (3, [.ref t, .int (nI p)]))) (hb : byf σ.1 t N β) (hnb : bya σ.1 g.2 []) (hp : p ≤ e) (he : e ≤ N) (hN : ¬ (p + 1 ≤ e ∧ β p ≤ 1) → ∀ (σ' : am_H) (p' : Nat), rdx g r t σ σ' p' 0 0 → Q (some .null) σ') (hS : p + 1 ≤ e ∧ β p ≤ 1 → ∀ (σ' : am_H) (x : Nat), rdx g r t σ σ' (p + 1) 1 8 → lfx g σ' σ.2.1 x 8 na (lN (β p)) [] → Q (some (.ref x)) σ') : AW g (d + 2) 20 (0, [some (.ref r), some (.ref na), some (.int (nI e)), none, none], []) σ Q := by
  have hb' := hb
  obtain ⟨n1, f, ha, hf⟩ := hb'
  refine aw_run 3 (F' := (3, [some (.ref r), some (.ref na), some (.int (nI e)), none, none], [.int (nI e), .int (nI 1), .ref r])) rfl ?_
  refine aw_v [.ref r, .int (nI 1), .int (nI e)] [] rfl (by decide) rfl hr rfl rfl (Nat.le_of_ble_eq_true rfl) (Nat.le_of_ble_eq_true rfl) ?_
  refine c_has hr hb (by omega) hp (by omega) ?_
  have self : rdx g r t σ σ p 0 0 := ⟨hr, fun _ _ _ => rfl, Nat.le_refl _, Nat.le_refl _, Nat.le_refl _, Nat.le_refl _, hw⟩
  by_cases h1 : p + 1 ≤ e
  · rw [if_pos ⟨h1, he⟩]
    refine aw_zne rfl (fun _ => ?_) (fun z => absurd (by decide) z)
    refine aw_run 2 (F' := (13, [some (.ref r), some (.ref na), some (.int (nI e)), none, none], [.int (nI 1), .ref r])) rfl ?_
    refine aw_v [.ref r, .int (nI 1)] [] rfl (by decide) rfl hr rfl rfl (Nat.le_of_ble_eq_true rfl) (Nat.le_of_ble_eq_true rfl) ?_
    refine c_num hg hr hb (by omega) (by omega) ?_
    have hle : sp_le β p 1 = β p := by simp [sp_le]
    rw [hle]
    have hbp := (hf p (by omega)).1
    have hat := rdx.at (g := g) (p' := p + 1) hw hr
    generalize am_set σ r (.inr (3, [.ref t, .int (nI (p + 1))])) = σ1 at hat ⊢
    refine aw_run 4 (F' := (20, [some (.ref r), some (.ref na), some (.int (nI e)), some (.long (lN (β p))), none], [.int (lg_cmp (lN (β p)) 1)])) rfl ?_
    by_cases h2 : β p ≤ 1
    · have e2 : ¬ 0 < lg_cmp (lN (β p)) 1 := by
        rcases (by omega : β p = 0 ∨ β p = 1) with q | q <;> rw [q] <;> decide
      refine aw_zgt rfl (fun z => absurd z e2) (fun _ => ?_)
      refine aw_new rfl ?_
      obtain ⟨a1, a2, a3, a4, a5, a6, a7⟩ := hat
      have hnx : σ1.2.1 = σ.2.1 := by omega
      refine aw_run 4 (F' := (31, [some (.ref r), some (.ref na), some (.int (nI e)), some (.long (lN (β p))), none], [.long (lN (β p)), .ref na, .int (nI 8), .ref σ1.2.1, .ref σ1.2.1])) rfl ?_
      refine aw_sta rfl ?_
      refine aw_i [.ref σ1.2.1, .int (nI 8), .ref na, .long (lN (β p)), .ref g.2] [.ref σ1.2.1] rfl (by decide) rfl rfl rfl (Nat.le_of_ble_eq_true rfl) (Nat.le_of_ble_eq_true rfl) ?_
      have hn1 : bya σ1.1 g.2 [] := by
        obtain ⟨-, -, f0, hf0, -⟩ := id hnb
        refine hnb.kept (a2 _ (hw _ _ hf0) (by omega))
      refine c_mk0 (y := 0) (pc := 0) (i := 0) (v0' := 0) (L := []) (rest := []) trivial (by omega) hg2 a7 hn1 (fun σ' b1 b2 b3 b4 b5 => ?_)
      refine aw_run 1 (F' := (41, [some (.ref r), some (.ref na), some (.int (nI e)), some (.long (lN (β p))), none], [.ref σ1.2.1])) rfl ?_
      refine aw_aret rfl ⟨_, rfl, Or.inl ⟨_, rfl⟩⟩ (hS ⟨h1, h2⟩ σ' σ1.2.1 ⟨?_, fun b c1 c2 => ?_, by omega, by omega, by omega, by omega, b5⟩ ⟨by omega, by omega, g.2, Or.inr rfl, ?_, b1⟩)
      · rw [b2 r (a7 _ _ a1)]
        exact a1
      · rw [b2 b (by omega)]
        exact a2 b c1 c2
      · obtain ⟨-, -, f0, hf0, -⟩ := id hn1
        exact hn1.kept (b2 _ (a7 _ _ hf0))
    · have e2 : 0 < lg_cmp (lN (β p)) 1 := by
        have : lN (β p) > 1 := by
          show (1 : Int64) < lN (β p)
          rw [show (1 : Int64) = lN 1 from rfl]
          exact (lN_lt (by omega) (by omega)).mpr (by omega)
        unfold lg_cmp
        rw [if_pos this]
        decide
      refine aw_zgt rfl (fun _ => ?_) (fun z => absurd e2 z)
      refine aw_run 1 (F' := (41, [some (.ref r), some (.ref na), some (.int (nI e)), some (.long (lN (β p))), none], [.null])) rfl ?_
      exact aw_nret rfl ⟨_, rfl, Or.inl ⟨_, rfl⟩⟩ (hN (fun q => h2 q.2) σ1 (p + 1) hat)
  · rw [if_neg (fun q => h1 q.1)]
    refine aw_zne rfl (fun z => absurd rfl z) (fun _ => ?_)
    refine aw_run 1 (F' := (10, [some (.ref r), some (.ref na), some (.int (nI e)), none, none], [.null])) rfl ?_
    exact aw_nret rfl ⟨_, rfl, Or.inl ⟨_, rfl⟩⟩ (hN (fun q => h1 q.1) σ p self)
end P32
end
section
theorem nI_neg {u : Nat} (h1 : 2 ^ 31 ≤ u) (h2 : u < 2 ^ 32) : nI u < 0 := by
  rw [Int32.lt_iff_toInt_lt]
  have e : (nI u).toInt = (u : Int) - 2 ^ 32 := by
    show (Int32.ofNat u).toInt = _
    rw [Int32.toInt_ofNat']
    show Int.bmod (u : Int) 4294967296 = _
    unfold Int.bmod
    have : (u : Int) % (4294967296 : Nat) = u := Int.emod_eq_of_lt (by omega) (by omega)
    rw [this, if_neg (by omega)]
    rfl
  rw [e]
  show (u : Int) - 2 ^ 32 < 0
  omega
abbrev sp_txc (β : Nat → Nat) (p e : Nat) : Prop := p + 4 ≤ e ∧ 1 ≤ sp_le β p 4 ∧ p + 4 + sp_le β p 4 ≤ e ∧ sp_tx β (sp_le β p 4 - 1) (p + 4) (p + 3 + sp_le β p 4) = true ∧ β (p + 3 + sp_le β p 4) = 0
section P33
variable {g : Nat × Nat} {d : Nat} {σ : am_H} {Q : Option Value → am_H → Prop}
set_option maxHeartbeats 4000000 in
/-- Reader.readText -/
theorem c_rtx {r t N p e na : Nat} {β : Nat → Nat} (hg : g.1 ≤ r) (hgt : g.1 ≤ t) (hgn : g.1 ≤ σ.2.1) (hg2 : g.2 < g.1) (hw : wf σ) (hr : σ.1 r = some (.inr (3, [.ref t, .int (nI p)]))) (hb : byf σ.1 t N β) (hnb : bya σ.1 g.2 []) (hp : p ≤ e) (he : e ≤ N) (hN : ¬ sp_txc β p e → ∀ (σ' : am_H) (p' : Nat), rdx g r t σ σ' p' 0 0 → Q (some .null) σ') (hS : sp_txc β p e → ∀ (σ' : am_H) (x : Nat), rdx g r t σ σ' (p + 4 + sp_le β p 4) 2 (8 + sp_le β p 4) → lfx g σ' σ.2.1 x 2 na 0 (sp_sub β (p + 4) (p + 3 + sp_le β p 4)) → Q (some (.ref x)) σ') : AW g (d + 4) 21 (0, [some (.ref r), some (.ref na), some (.int (nI e)), none, none], []) σ Q := by
  have hb' := hb
  obtain ⟨n1, f, ha, hf⟩ := hb'
  have htr : t ≠ r := by
    intro q
    subst q
    rw [hr] at ha
    cases ha
  refine aw_run 3 (F' := (3, [some (.ref r), some (.ref na), some (.int (nI e)), none, none], [.int (nI e), .int (nI 4), .ref r])) rfl ?_
  refine aw_v [.ref r, .int (nI 4), .int (nI e)] [] rfl (by decide) rfl hr rfl rfl (Nat.le_of_ble_eq_true rfl) (Nat.le_of_ble_eq_true rfl) ?_
  refine c_has hr hb (by omega) hp (by omega) ?_
  have self : rdx g r t σ σ p 0 0 := ⟨hr, fun _ _ _ => rfl, Nat.le_refl _, Nat.le_refl _, Nat.le_refl _, Nat.le_refl _, hw⟩
  by_cases h1 : p + 4 ≤ e
  · rw [if_pos ⟨h1, he⟩]
    refine aw_zne rfl (fun _ => ?_) (fun z => absurd (by decide) z)
    refine aw_run 2 (F' := (13, [some (.ref r), some (.ref na), some (.int (nI e)), none, none], [.int (nI 4), .ref r])) rfl ?_
    refine aw_v [.ref r, .int (nI 4)] [] rfl (by decide) rfl hr rfl rfl (Nat.le_of_ble_eq_true rfl) (Nat.le_of_ble_eq_true rfl) ?_
    refine c_num hg hr hb (by omega) (by omega) ?_
    have hu := sp_le_lt (β := β) (p := p) (w := 4) (fun i hi => (hf (p + i) (by omega)).1)
    have hat := rdx.at (g := g) (p' := p + 4) hw hr
    generalize am_set σ r (.inr (3, [.ref t, .int (nI (p + 4))])) = σ1 at hat ⊢
    generalize hue : sp_le β p 4 = u at hN hS hu ⊢
    refine aw_run 2 (F' := (18, [some (.ref r), some (.ref na), some (.int (nI e)), some (.int ((lN u).toInt32)), none], [])) rfl ?_
    rw [lN_i]
    have hat' := hat
    obtain ⟨a1, a2, a3, a4, a5, a6, a7⟩ := hat'
    have hnx : σ1.2.1 = σ.2.1 := by omega
    have hb1 : byf σ1.1 t N β := hb.kept (a2 t (hw _ _ ha) htr)
    have hn1 : bya σ1.1 g.2 [] := by
      obtain ⟨-, -, f0, hf0, -⟩ := id hnb
      exact hnb.kept (a2 _ (hw _ _ hf0) (by omega))
    have no : ¬ sp_txc β p e → AW g (d + 4) 21 (32, [some (.ref r), some (.ref na), some (.int (nI e)), some (.int (nI u)), none], []) σ1 Q := by
      intro q
      refine aw_run 1 (F' := (33, [some (.ref r), some (.ref na), some (.int (nI e)), some (.int (nI u)), none], [.null])) rfl ?_
      exact aw_nret rfl ⟨_, rfl, Or.inl ⟨_, rfl⟩⟩ (hN (by rw [← hue] at *; exact q) σ1 (p + 4) hat)
    unfold sp_txc at no
    rw [hue] at no
    refine aw_run 2 (F' := (20, [some (.ref r), some (.ref na), some (.int (nI e)), some (.int (nI u)), none], [.int (nI 1), .int (nI u)])) rfl ?_
    by_cases hbig : 2 ^ 31 ≤ u
    · refine aw_clt rfl (fun _ => no (fun q => by omega)) (fun z => absurd ?_ z)
      exact Int32.lt_trans (nI_neg hbig (by omega)) (by decide)
    · refine aw_clt rfl (fun z => no (fun q => ?_)) (fun z => ?_)
      · have := (nI_ltI (by omega) (by omega)).mp z
        omega
      · have z' : ¬ u < 1 := fun y => z ((nI_ltI (by omega) (by omega)).mpr y)
        refine aw_run 3 (F' := (26, [some (.ref r), some (.ref na), some (.int (nI e)), some (.int (nI u)), none], [.int (nI e), .int (nI u), .ref r])) rfl ?_
        refine aw_v [.ref r, .int (nI u), .int (nI e)] [] rfl (by decide) rfl a1 rfl rfl (Nat.le_of_ble_eq_true rfl) (Nat.le_of_ble_eq_true rfl) ?_
        refine c_has a1 hb1 (by omega) h1 (by omega) ?_
        by_cases h2 : p + 4 + u ≤ e
        · rw [if_pos ⟨h2, he⟩]
          refine aw_zne rfl (fun _ => ?_) (fun z => absurd (by decide) z)
          refine aw_run 1 (F' := (35, [some (.ref r), some (.ref na), some (.int (nI e)), some (.int (nI u)), none], [.ref r])) rfl ?_
          refine aw_get rfl a1 rfl ?_
          refine aw_run 7 (F' := (47, [some (.ref r), some (.ref na), some (.int (nI e)), some (.int (nI u)), some (.int (nI (p + 4)))], [.int (nI (p + 4) + nI u - 1), .ref r])) rfl ?_
          have e3 : nI (p + 4) + nI u - 1 = nI (p + 3 + u) := by
            rw [nI_add, show p + 4 + u = (p + 3 + u) + 1 by omega]
            exact nI_pred _
          rw [e3]
          refine aw_put rfl hg a1 (Nat.le_of_ble_eq_true rfl) rfl rfl ?_
          have hat2 := (hat.trans (rdx.at (g := g) (p' := p + 3 + u) a7 a1)).mono (Nat.le_refl 0) (Nat.le_refl 0)
          show AW g (d + 4) 21 (50, _, _) (am_set σ1 r (.inr (3, [.ref t, .int (nI (p + 3 + u))]))) Q
          generalize am_set σ1 r (.inr (3, [.ref t, .int (nI (p + 3 + u))])) = σ2 at hat2 ⊢
          have hat2' := hat2
          obtain ⟨b1, b2, b3, b4, b5, b6, b7⟩ := hat2'
          have hb2 : byf σ2.1 t N β := hb.kept (b2 t (hw _ _ ha) htr)
          have hn2 : bya σ2.1 g.2 [] := by
            obtain ⟨-, -, f0, hf0, -⟩ := id hnb
            exact hnb.kept (b2 _ (hw _ _ hf0) (by omega))
          have no2 : ∀ (σ3 : am_H) (p3 : Nat), rdx g r t σ σ3 p3 0 0 → ¬ sp_txc β p e → AW g (d + 4) 21 (73, [some (.ref r), some (.ref na), some (.int (nI e)), some (.int (nI u)), some (.int (nI (p + 4)))], []) σ3 Q := by
            intro σ3 p3 h3 q
            refine aw_run 1 (F' := (74, [some (.ref r), some (.ref na), some (.int (nI e)), some (.int (nI u)), some (.int (nI (p + 4)))], [.null])) rfl ?_
            exact aw_nret rfl ⟨_, rfl, Or.inl ⟨_, rfl⟩⟩ (hN (by rw [← hue] at *; exact q) σ3 p3 h3)
          unfold sp_txc at no2
          rw [hue] at no2
          refine aw_run 1 (F' := (51, [some (.ref r), some (.ref na), some (.int (nI e)), some (.int (nI u)), some (.int (nI (p + 4)))], [.ref r])) rfl ?_
          refine aw_get rfl b1 rfl ?_
          refine aw_run 2 (F' := (57, [some (.ref r), some (.ref na), some (.int (nI e)), some (.int (nI u)), some (.int (nI (p + 4)))], [.ref r, .int (nI (p + 4)), .ref t])) rfl ?_
          refine aw_get rfl b1 rfl ?_
          refine aw_s [.ref t, .int (nI (p + 4)), .int (nI (p + 3 + u))] [] rfl ⟨by decide, by decide⟩ rfl rfl (Nat.le_of_ble_eq_true rfl) (Nat.le_of_ble_eq_true rfl) ?_
          refine c_isRight hb2 (by omega) (by omega) ?_
          rw [show p + 3 + u - (p + 4) = u - 1 by omega]
          by_cases h3 : sp_tx β (u - 1) (p + 4) (p + 3 + u) = true
          · rw [if_pos h3]
            refine aw_zeq rfl (fun z => absurd z (by decide)) (fun _ => ?_)
            refine aw_run 1 (F' := (67, [some (.ref r), some (.ref na), some (.int (nI e)), some (.int (nI u)), some (.int (nI (p + 4)))], [.ref r])) rfl ?_
            refine aw_v [.ref r] [] rfl (by decide) rfl b1 rfl rfl (Nat.le_of_ble_eq_true rfl) (Nat.le_of_ble_eq_true rfl) ?_
            refine c_skip hg b1 hb2 (by omega) (fun h4 => ?_) (fun h4 => ?_)
            · refine aw_zne rfl (fun _ => ?_) (fun z => absurd (by decide) z)
              have hat3 := (hat2.trans (rdx.at (g := g) (p' := p + 3 + u + 1) b7 b1)).mono (Nat.le_refl 0) (Nat.le_refl 0)
              generalize am_set σ2 r (.inr (3, [.ref t, .int (nI (p + 3 + u + 1))])) = σ3 at hat3 ⊢
              rw [show p + 3 + u + 1 = p + 4 + u by omega] at hat3
              obtain ⟨c1, c2, c3, c4, c5, c6, c7⟩ := hat3
              have hb3 : byf σ3.1 t N β := hb.kept (c2 t (hw _ _ ha) htr)
              have hn3 : bya σ3.1 g.2 [] := by
                obtain ⟨-, -, f0, hf0, -⟩ := id hnb
                exact hnb.kept (c2 _ (hw _ _ hf0) (by omega))
              have hnx3 : σ3.2.1 = σ.2.1 := by omega
              have hrl := c7 _ _ c1
              refine aw_new rfl ?_
              have hcell := am_psh_same σ3 (.inr (1, am_def 1)) (am_nf 1)
              have hpne : ∀ b, b < σ3.2.1 → (am_psh σ3 (.inr (1, am_def 1)) (am_nf 1)).1 b = σ3.1 b := fun b hb => am_psh_ne _ _ _ (by omega)
              have hwf4 : wf (am_psh σ3 (.inr (1, am_def 1)) (am_nf 1)) := c7.psh
              have hsz4 : (am_psh σ3 (.inr (1, am_def 1)) (am_nf 1)).2.1 = σ3.2.1 + 1 := rfl
              have hsl4 : (am_psh σ3 (.inr (1, am_def 1)) (am_nf 1)).2.2 = σ3.2.2 + 8 := rfl
              generalize am_psh σ3 (.inr (1, am_def 1)) (am_nf 1) = σ4 at hcell hpne hwf4 hsz4 hsl4 ⊢
              refine aw_run 5 (F' := (83, [some (.ref r), some (.ref na), some (.int (nI e)), some (.int (nI u)), some (.int (nI (p + 4)))], [.ref r, .long 0, .ref na, .int (nI 2), .ref σ3.2.1, .ref σ3.2.1])) rfl ?_
              refine aw_get rfl (show σ4.1 r = _ by rw [hpne r hrl]; exact c1) rfl ?_
              refine aw_run 6 (F' := (94, [some (.ref r), some (.ref na), some (.int (nI e)), some (.int (nI u)), some (.int (nI (p + 4)))], [.int (nI (p + 4) + nI u - 1), .int (nI (p + 4)), .ref t, .long 0, .ref na, .int (nI 2), .ref σ3.2.1, .ref σ3.2.1])) rfl ?_
              rw [e3]
              refine aw_s [.ref t, .int (nI (p + 4)), .int (nI (p + 3 + u))] [.long 0, .ref na, .int (nI 2), .ref σ3.2.1, .ref σ3.2.1] rfl ⟨by decide, by decide⟩ rfl rfl (Nat.le_of_ble_eq_true rfl) (Nat.le_of_ble_eq_true rfl) ?_
              have htl := c7 t _ (show σ3.1 t = some (.inl (1, N, .inl f)) by rw [c2 t (hw _ _ ha) htr]; exact ha)
              have hgl : g.2 < σ3.2.1 := by omega
              refine c_cobL hgt (by omega) hwf4 (hb3.kept (hpne t htl)) (by omega) (by omega) (hn3.kept (hpne _ hgl)) (fun ba σ5 k1 k2 k3 k4 k5 k6 k7 k8 => ?_)
              have hx5 : σ5.1 σ3.2.1 = some (.inr (1, am_def 1)) := by rw [k3 _ (by omega)]; exact hcell
              have hlen5 : (sp_sub β (p + 4) (p + 3 + u)).length = u - 1 := by rw [sp_sub_len]; omega
              have hne5 : σ3.2.1 ≠ ba := by
                rcases k2 with ⟨q1, q2⟩ | q
                · omega
                · omega
              have k1' := k1
              obtain ⟨l1, l2, fb, l3, l4⟩ := k1'
              refine aw_i [.ref σ3.2.1, .int (nI 2), .ref na, .long 0, .ref ba] [.ref σ3.2.1] rfl (by decide) rfl rfl rfl (Nat.le_of_ble_eq_true rfl) (Nat.le_of_ble_eq_true rfl) ?_
              refine c_vnew (d := d + 3) (w0 := .int 0) (w1 := .null) (w2 := .long 0) (w3 := .null) (w4 := .int 0) (w5 := .null) (w6 := .null) (w7 := .null) (by omega) (by omega) hx5 hne5 l3 ?_
              refine aw_aret rfl ⟨_, rfl, Or.inl ⟨_, rfl⟩⟩ (hS (by unfold sp_txc; rw [hue]; exact ⟨h1, by omega, h2, h3, h4⟩) _ σ3.2.1 ⟨?_, fun b q1 q2 => ?_, ?_, ?_, ?_, ?_, k8.set hx5⟩ ⟨by omega, ?_, ba, ?_, ?_, am_set_same _ _ _⟩)
              · rw [am_set_ne _ _ (by omega), k3 r (by omega), hpne r hrl]
                exact c1
              · rw [am_set_ne _ _ (by omega), k3 b (by omega), hpne b (by omega)]
                exact c2 b q1 q2
              · show σ.2.1 ≤ σ5.2.1
                omega
              · show σ5.2.1 ≤ σ.2.1 + 2
                omega
              · show σ.2.2 ≤ σ5.2.2
                omega
              · show σ5.2.2 ≤ σ.2.2 + (8 + u)
                omega
              · show σ3.2.1 < σ5.2.1
                omega
              · rcases k2 with ⟨q1, q2⟩ | q
                · exact Or.inl ⟨by omega, q2, Ne.symm hne5⟩
                · exact Or.inr q
              · exact k1.kept (am_set_ne _ _ (Ne.symm hne5))
            · refine aw_zne rfl (fun z => absurd rfl z) (fun _ => ?_)
              exact no2 σ2 _ hat2 (fun q => h4 q.2.2.2.2)
          · rw [if_neg h3]
            refine aw_zeq rfl (fun _ => ?_) (fun z => absurd rfl z)
            exact no2 σ2 _ hat2 (fun q => h3 q.2.2.2.1)
        · rw [if_neg (fun q => h2 q.1)]
          refine aw_zne rfl (fun z => absurd rfl z) (fun _ => ?_)
          exact no (fun q => h2 q.2.2.1)
  · rw [if_neg (fun q => h1 q.1)]
    refine aw_zne rfl (fun z => absurd rfl z) (fun _ => ?_)
    refine aw_run 1 (F' := (10, [some (.ref r), some (.ref na), some (.int (nI e)), none, none], [.null])) rfl ?_
    exact aw_nret rfl ⟨_, rfl, Or.inl ⟨_, rfl⟩⟩ (hN (fun q => h1 q.1) σ p self)
end P33
end
section
/-! documents read from bytes: what is meant -/
def sp_s32 (u : Nat) : Int := if u < 2 ^ 31 then (u : Int) else (u : Int) - 2 ^ 32
def sp_s64 (u : Nat) : Int := if u < 2 ^ 63 then (u : Int) else (u : Int) - 2 ^ 64
def sp_el (G : Nat → Bool → Nat → Nat → Option (sp_F × Nat)) (β : Nat → Nat) (dep p e : Nat) : Option (sp_V × Nat) :=
  if e ≤ p then none else match sp_nm β (p + 1) e with
  | none => none
  | some s =>
    if β p = 16 then (if s + 5 ≤ e then some (((16, sp_sub β (p + 1) s, sp_s32 (sp_le β (s + 1) 4), []), .leaf), s + 5) else none)
    else if β p = 18 then (if s + 9 ≤ e then some (((18, sp_sub β (p + 1) s, sp_s64 (sp_le β (s + 1) 8), []), .leaf), s + 9) else none)
    else if β p = 8 then (if s + 2 ≤ e ∧ β (s + 1) ≤ 1 then some (((8, sp_sub β (p + 1) s, (β (s + 1) : Int), []), .leaf), s + 2) else none)
    else if β p = 10 then some (((10, sp_sub β (p + 1) s, 0, []), .leaf), s + 1)
    else if β p = 2 then (if sp_txc β (s + 1) e then some (((2, sp_sub β (p + 1) s, 0, sp_sub β (s + 1 + 4) (s + 1 + 3 + sp_le β (s + 1) 4)), .leaf), s + 1 + 4 + sp_le β (s + 1) 4) else none)
    else if β p = 3 then (match G (dep + 1) false (s + 1) e with
      | none => none
      | some (c, q) => some (((3, sp_sub β (p + 1) s, 0, []), c), q))
    else if β p = 4 then (match G (dep + 1) true (s + 1) e with
      | none => none
      | some (c, q) => some (((4, sp_sub β (p + 1) s, 0, []), c), q))
    else none
/-- a name in decimal digits -/
def sp_decF : Nat → Nat → List Nat
  | 0, _ => []
  | n + 1, k => if k < 10 then [48 + k] else sp_decF n (k / 10) ++ [48 + k % 10]
def sp_dec (k : Nat) : List Nat := sp_decF (k + 1) k
abbrev sp_adm (row : Bool) (seen : List sp_V) (nm : List Nat) : Prop := if row = true then nm = sp_dec seen.length else sp_fnd nm (sp_ofL seen) = none
def sp_nst (E : Nat → Bool → Nat → Nat → List sp_V → Option (List sp_V)) (β : Nat → Nat) (dep : Nat) (row : Bool) (p e : Nat) : Option (sp_F × Nat) :=
  if 16 < dep ∨ e < p + 5 then none
  else if sp_le β p 4 < 5 ∨ e < p + sp_le β p 4 then none
  else match E dep row (p + 4) (p + sp_le β p 4 - 1) [] with
    | none => none
    | some l => if β (p + sp_le β p 4 - 1) = 0 then some (sp_ofL l, p + sp_le β p 4) else none
def sp_es (β : Nat → Nat) : Nat → Nat → Bool → Nat → Nat → List sp_V → Option (List sp_V)
  | 0, _, _, _, _, _ => none
  | n + 1, dep, row, p, e, seen => if e ≤ p then (if p = e then some seen else none) else match sp_el (sp_nst (sp_es β n) β) β dep p e with
    | none => none
    | some (v, q) => if sp_adm row seen v.1.2.1 then sp_es β n dep row q e (seen ++ [v]) else none
theorem sp_nst_le {E : Nat → Bool → Nat → Nat → List sp_V → Option (List sp_V)} {β : Nat → Nat} {dep p e q : Nat} {row : Bool} {c : sp_F} (h : sp_nst E β dep row p e = some (c, q)) : p + 5 ≤ q ∧ q ≤ e := by
  unfold sp_nst at h
  split at h
  · cases h
  · split at h
    · cases h
    · split at h
      · cases h
      · split at h
        · cases h
          omega
        · cases h
/-- what the reader needs of the heap -/
def rok (g : Nat × Nat) (σ : am_H) (r t N p : Nat) (β : Nat → Nat) : Prop := g.1 ≤ r ∧ g.1 ≤ t ∧ g.1 ≤ σ.2.1 ∧ g.2 < g.1 ∧ wf σ ∧ σ.1 r = some (.inr (3, [.ref t, .int (nI p)])) ∧ byf σ.1 t N β ∧ bya σ.1 g.2 []
theorem rok.rt {g : Nat × Nat} {σ : am_H} {r t N p : Nat} {β : Nat → Nat} (h : rok g σ r t N p β) : t ≠ r := by
  obtain ⟨-, -, -, -, -, h1, ⟨-, f, h2, -⟩, -⟩ := h
  intro q
  subst q
  rw [h1] at h2
  cases h2
theorem rok.go {g : Nat × Nat} {σ σ' : am_H} {r t N p p' k m : Nat} {β : Nat → Nat} (h : rok g σ r t N p β) (h' : rdx g r t σ σ' p' k m) : rok g σ' r t N p' β := by
  have hrt := h.rt
  obtain ⟨a1, a2, a3, a4, a5, a6, a7, a8⟩ := h
  obtain ⟨b1, b2, b3, b4, b5, b6, b7⟩ := h'
  have ht : t < σ.2.1 := by
    obtain ⟨-, f, q, -⟩ := id a7
    exact a5 _ _ q
  have hn : g.2 < σ.2.1 := by
    obtain ⟨-, -, f, q, -⟩ := id a8
    exact a5 _ _ q
  exact ⟨a1, a2, by omega, a4, b7, b1, a7.kept (b2 t ht hrt), a8.kept (b2 _ hn (by omega))⟩
theorem rok.self {g : Nat × Nat} {σ : am_H} {r t N p : Nat} {β : Nat → Nat} (h : rok g σ r t N p β) : rdx g r t σ σ p 0 0 := by
  obtain ⟨a1, a2, a3, a4, a5, a6, a7, a8⟩ := h
  exact ⟨a6, fun _ _ _ => rfl, Nat.le_refl _, Nat.le_refl _, Nat.le_refl _, Nat.le_refl _, a5⟩
/-- an element out of a leaf that was made, and its name -/
theorem elz_lf {g : Nat × Nat} {σ σ' : am_H} {lo x k na : Nat} {num : Int64} {nm txt : List Nat} (hk : kd k) (hlo : lo ≤ σ.2.1) (hn : bya σ'.1 na nm) (hz : (lo ≤ na ∧ na < σ.2.1) ∨ na = g.2) (hxg : g.2 < lo) (h : lfx g σ' σ.2.1 x k na num txt) : elz g σ'.1 lo σ'.2.1 x ((k, nm, num.toInt, txt), .leaf) none := by
  obtain ⟨h1, h2, ba, h3, h4, h5⟩ := h
  refine ⟨by omega, h2, none, none, ⟨hk, ?_, na, ba, num, ?_, ?_, ?_, rfl, hn, h4⟩, rfl⟩
  · have := h4.1
    show txt.length + 0 < 65536
    omega
  · rcases hz with ⟨a, b⟩ | a
    · exact Or.inl ⟨a, by omega, by omega⟩
    · exact Or.inr a
  · rcases h3 with ⟨a, b, c⟩ | a
    · exact Or.inl ⟨by omega, b, c⟩
    · exact Or.inr a
  · exact h5
end
section
theorem rdx.setx {g : Nat × Nat} {r t : Nat} {σ σ2 : am_H} {p k m x : Nat} {c0 c : am_C} (h : rdx g r t σ σ2 p k m) (hx : σ.2.1 ≤ x) (hr : r ≠ x) (hc : σ2.1 x = some c0) : rdx g r t σ (am_set σ2 x c) p k m := by
  obtain ⟨a1, a2, a3, a4, a5, a6, a7⟩ := h
  exact ⟨(am_set_ne _ _ hr).trans a1, fun a h1 h2 => (am_set_ne _ _ (by omega)).trans (a2 a h1 h2), a3, a4, a5, a6, a7.set hc⟩
theorem rdx.new {g : Nat × Nat} {r t : Nat} {σ σ1 : am_H} {p k m n : Nat} {c : am_C} (h : rdx g r t σ σ1 p k m) : rdx g r t σ (am_psh σ1 c n) p (k + 1) (m + n) := by
  obtain ⟨a1, a2, a3, a4, a5, a6, a7⟩ := h
  have hr := a7 _ _ a1
  refine ⟨(am_psh_ne _ _ _ (by omega)).trans a1, fun a h1 h2 => (am_psh_ne _ _ _ (by omega)).trans (a2 a h1 h2), ?_, ?_, ?_, ?_, a7.psh⟩
  · show σ.2.1 ≤ σ1.2.1 + 1
    omega
  · show σ1.2.1 + 1 ≤ σ.2.1 + (k + 1)
    omega
  · show σ.2.2 ≤ σ1.2.2 + n
    omega
  · show σ1.2.2 + n ≤ σ.2.2 + (m + n)
    omega
theorem s32_of {u : Nat} (h : u < 2 ^ 32) : ((lN u).toInt32).toInt64.toInt = sp_s32 u := by
  rw [lN_i, Int32.toInt_toInt64]
  show (Int32.ofNat u).toInt = _
  rw [Int32.toInt_ofNat']
  show Int.bmod (u : Int) 4294967296 = _
  unfold Int.bmod sp_s32
  have e : (u : Int) % (4294967296 : Nat) = u := Int.emod_eq_of_lt (by omega) (by omega)
  rw [e]
  by_cases q : u < 2 ^ 31
  · rw [if_pos q, if_pos (by omega)]
  · rw [if_neg q, if_neg (by omega)]
    rfl
theorem s64_of {u : Nat} (h : u < 2 ^ 64) : (lN u).toInt = sp_s64 u := by
  show (Int64.ofNat u).toInt = _
  rw [Int64.toInt_ofNat']
  show Int.bmod (u : Int) 18446744073709551616 = _
  unfold Int.bmod sp_s64
  have e : (u : Int) % (18446744073709551616 : Nat) = u := Int.emod_eq_of_lt (by omega) (by omega)
  rw [e]
  by_cases q : u < 2 ^ 63
  · rw [if_pos q, if_pos (by omega)]
  · rw [if_neg q, if_neg (by omega)]
    rfl
/-- what readNest does, the elements being read with n in hand -/
def RN (β : Nat → Nat) (N t n : Nat) : Prop := ∀ (g : Nat × Nat) (d : Nat) (σ : am_H) (Q : Option Value → am_H → Prop) (r na p e dep lo k : Nat) (row : Bool) (nm : List Nat), rok g σ r t N p β → p ≤ e → e ≤ N → e < p + n + 5 → bya σ.1 na nm → ((lo ≤ na ∧ na < σ.2.1) ∨ na = g.2) → lo ≤ σ.2.1 → r < lo → g.2 < lo → 1 ≤ dep → dep ≤ 17 → 2 * (17 - dep) + 6 ≤ d → k = (if row = true then 4 else 3) →
  (sp_nst (sp_es β n) β dep row p e = none → ∀ (σ' : am_H) (p' : Nat), rdx g r t σ σ' p' (2 * (e - p)) (10 * (e - p)) → Q (some .null) σ') →
  (∀ (c : sp_F) (q : Nat) (σ' : am_H) (x : Nat), sp_nst (sp_es β n) β dep row p e = some (c, q) → rdx g r t σ σ' q (2 * (q - p)) (10 * (q - p)) → elz g σ'.1 lo σ'.2.1 x ((k, nm, 0, []), c) none → Q (some (.ref x)) σ') →
  AW g d 11 (0, [some (.ref r), some (.int (nI k)), some (.ref na), some (.int (nI e)), some (.int (nI dep)), none, none, none, none, none, none], []) σ Q
section P35
variable {g : Nat × Nat} {d : Nat} {σ : am_H} {Q : Option Value → am_H → Prop}
theorem c_mk1 {x na : Nat} {k : Int32} {num : Int64} (hgx : g.1 ≤ x) (hg2 : g.2 < g.1) (hx : σ.1 x = some (.inr (1, am_def 1))) (hnb : bya σ.1 g.2 []) (hQ : Q none (am_set σ x (.inr (1, [.int k, .ref na, .long num, .ref g.2, .int (nI 0), .null, .null, .null])))) : AW g (d + 1) 2 (0, [some (.ref x), some (.int k), some (.ref na), some (.long num), none, some (.ref g.2)], []) σ Q := by
  obtain ⟨-, -, f0, hf0, -⟩ := hnb
  exact c_vnew (d := d + 1) (w0 := .int 0) (w1 := .null) (w2 := .long 0) (w3 := .null) (w4 := .int 0) (w5 := .null) (w6 := .null) (w7 := .null) (n := 0) (fb := f0) (by omega) hgx hx (by omega) hf0 hQ
theorem lfx_mk {σ' : am_H} {lo x k na : Nat} {num : Int64} (h1 : lo ≤ x) (h2 : x < σ'.2.1) (hne : g.2 ≠ x) (hnb : bya σ'.1 g.2 []) : lfx g (am_set σ' x (.inr (1, [.int (nI k), .ref na, .long num, .ref g.2, .int (nI 0), .null, .null, .null]))) lo x k na num [] :=
  ⟨h1, h2, g.2, Or.inr rfl, hnb.kept (am_set_ne _ _ hne), am_set_same _ _ _⟩
set_option maxHeartbeats 8000000 in
/-- Reader.readElement -/
theorem c_rel {β : Nat → Nat} {N t n : Nat} (hRN : RN β N t n) {r p e dep : Nat} (ho : rok g σ r t N p β) (hp : p ≤ e) (he : e ≤ N) (hen : e < p + n + 6) (hd1 : 1 ≤ dep) (hd2 : dep ≤ 16) (hd : 2 * (17 - dep) + 5 ≤ d) (hN : sp_el (sp_nst (sp_es β n) β) β dep p e = none → ∀ (σ' : am_H) (p' : Nat), rdx g r t σ σ' p' (2 * (e - p)) (10 * (e - p)) → Q (some .null) σ')
    (hS : ∀ (v : sp_V) (q : Nat) (σ' : am_H) (x : Nat), sp_el (sp_nst (sp_es β n) β) β dep p e = some (v, q) → p + 2 ≤ q → q ≤ e → rdx g r t σ σ' q (2 * (q - p)) (10 * (q - p)) → elz g σ'.1 σ.2.1 σ'.2.1 x v none → Q (some (.ref x)) σ') : AW g d 14 (0, [some (.ref r), some (.int (nI e)), some (.int (nI dep)), none, none], []) σ Q := by
  obtain ⟨d, rfl⟩ : ∃ d', d = d' + 5 := ⟨d - 5, by omega⟩
  have ho' := ho
  obtain ⟨a1, a2, a3, a4, a5, a6, a7, a8⟩ := ho'
  have hrl := a5 _ _ a6
  have hgl : g.2 < σ.2.1 := by omega
  have hbN : N < 65536 := a7.1
  refine aw_run 3 (F' := (3, [some (.ref r), some (.int (nI e)), some (.int (nI dep)), none, none], [.int (nI e), .int (nI 1), .ref r])) rfl ?_
  refine aw_v [.ref r, .int (nI 1), .int (nI e)] [] rfl (by decide) rfl a6 rfl rfl (Nat.le_of_ble_eq_true rfl) (Nat.le_of_ble_eq_true rfl) ?_
  refine c_has a6 a7 (by omega) hp (by omega) ?_
  by_cases h1' : e ≤ p
  · rw [if_neg (fun q => by omega)]
    refine aw_zne rfl (fun z => absurd rfl z) (fun _ => ?_)
    refine aw_run 1 (F' := (10, [some (.ref r), some (.int (nI e)), some (.int (nI dep)), none, none], [.null])) rfl ?_
    exact aw_nret rfl ⟨_, rfl, Or.inl ⟨_, rfl⟩⟩ (hN (by unfold sp_el; rw [if_pos (by omega)]) σ p (ho.self.mono (Nat.zero_le _) (Nat.zero_le _)))
  have h1 : p + 1 ≤ e := by omega
  rw [if_pos ⟨h1, he⟩]
  refine aw_zne rfl (fun _ => ?_) (fun z => absurd (by decide) z)
  refine aw_run 2 (F' := (13, [some (.ref r), some (.int (nI e)), some (.int (nI dep)), none, none], [.int (nI 1), .ref r])) rfl ?_
  refine aw_v [.ref r, .int (nI 1)] [] rfl (by decide) rfl a6 rfl rfl (Nat.le_of_ble_eq_true rfl) (Nat.le_of_ble_eq_true rfl) ?_
  refine c_num a1 a6 a7 (by omega) (by omega) ?_
  have hle : sp_le β p 1 = β p := by simp [sp_le]
  rw [hle]
  have hat1 := rdx.at (g := g) (p' := p + 1) a5 a6
  generalize am_set σ r (.inr (3, [.ref t, .int (nI (p + 1))])) = σ1 at hat1 ⊢
  have ho1 := ho.go hat1
  have ho1' := ho1
  obtain ⟨b1, b2, b3, b4, b5, b6, b7, b8⟩ := ho1'
  have hbp : β p < 256 := by
    obtain ⟨-, f, -, hf⟩ := a7
    exact (hf p (by omega)).1
  have hn1 : σ1.2.1 = σ.2.1 := by
    have := hat1.2.2.1
    have := hat1.2.2.2.1
    omega
  refine aw_run 4 (F' := (20, [some (.ref r), some (.int (nI e)), some (.int (nI dep)), some (.int ((lN (β p)).toInt32)), none], [.int (nI e), .ref r])) rfl ?_
  rw [lN_i]
  refine aw_v [.ref r, .int (nI e)] [] rfl (by decide) rfl b6 rfl rfl (Nat.le_of_ble_eq_true rfl) (Nat.le_of_ble_eq_true rfl) ?_
  unfold sp_el at hN hS
  rw [if_neg (by omega)] at hN hS
  refine c_rnm b1 b2 b3 b4 b5 b6 b7 b8 h1 he (fun q => ?_) (fun s na σ2 q hat2 hna hz => ?_)
  · rw [q] at hN
    refine aw_run 2 (F' := (27, [some (.ref r), some (.int (nI e)), some (.int (nI dep)), some (.int (nI (β p))), some .null], [.null])) rfl ?_
    refine aw_ifnon_n rfl ?_
    refine aw_run 1 (F' := (31, [some (.ref r), some (.int (nI e)), some (.int (nI dep)), some (.int (nI (β p))), some .null], [.null])) rfl ?_
    exact aw_nret rfl ⟨_, rfl, Or.inl ⟨_, rfl⟩⟩ (hN rfl σ1 (p + 1) (hat1.mono (Nat.zero_le _) (Nat.zero_le _)))
  · obtain ⟨s1, s2, s3, s4, s5⟩ := sp_nm_of q
    rw [q] at hN hS
    dsimp only at hN hS
    have hat2' := hat1.trans hat2
    have ho2 := ho1.go hat2
    have ho2' := ho2
    obtain ⟨c1, c2, c3, c4, c5, c6, c7, c8⟩ := ho2'
    rw [hn1] at hz
    have hx2 : σ.2.1 ≤ σ2.2.1 := hat2'.2.2.1
    have hx2b : σ2.2.1 ≤ σ.2.1 + 1 := by
      have := hat2'.2.2.2.1
      omega
    have hrl2 := c5 _ _ c6
    refine aw_run 2 (F' := (27, [some (.ref r), some (.int (nI e)), some (.int (nI dep)), some (.int (nI (β p))), some (.ref na)], [.ref na])) rfl ?_
    refine aw_ifnon_r rfl ?_
    refine aw_run 1 (F' := (33, [some (.ref r), some (.int (nI e)), some (.int (nI dep)), some (.int (nI (β p))), some (.ref na)], [.int (nI (β p))])) rfl ?_
    have gofail : ∀ (σ' : am_H) (p' : Nat), rdx g r t σ2 σ' p' 1 8 → rdx g r t σ σ' p' (2 * (e - p)) (10 * (e - p)) := fun σ' p' h => (hat2'.trans h).mono (by omega) (by omega)
    by_cases k16 : β p = 16
    · rw [k16] at hN hS ⊢
      rw [if_pos rfl] at hN hS
      refine aw_tsw 116 rfl (Or.inr ⟨by decide, by decide, _, rfl, by decide⟩) ?_
      refine aw_run 3 (F' := (119, [some (.ref r), some (.int (nI e)), some (.int (nI dep)), some (.int (nI 16)), some (.ref na)], [.int (nI e), .int (nI 4), .ref r])) rfl ?_
      refine aw_v [.ref r, .int (nI 4), .int (nI e)] [] rfl (by decide) rfl c6 rfl rfl (Nat.le_of_ble_eq_true rfl) (Nat.le_of_ble_eq_true rfl) ?_
      refine c_has c6 c7 (by omega) (by omega) (by omega) ?_
      by_cases h2 : s + 5 ≤ e
      · rw [if_pos ⟨by omega, he⟩]
        rw [if_pos h2] at hS
        refine aw_zeq rfl (fun z => absurd z (by decide)) (fun _ => ?_)
        refine aw_new rfl ?_
        have hat3 := (rok.self ho2).new (c := .inr (1, am_def 1)) (n := am_nf 1)
        have hc3 := am_psh_same σ2 (.inr (1, am_def 1)) (am_nf 1)
        generalize am_psh σ2 (.inr (1, am_def 1)) (am_nf 1) = σ3 at hat3 hc3 ⊢
        have ho3 := ho2.go hat3
        have ho3' := ho3
        obtain ⟨e1, e2, e3, e4, e5, e6, e7, e8⟩ := ho3'
        refine aw_run 5 (F' := (134, [some (.ref r), some (.int (nI e)), some (.int (nI dep)), some (.int (nI 16)), some (.ref na)], [.int (nI 4), .ref r, .ref na, .int (nI 16), .ref σ2.2.1, .ref σ2.2.1])) rfl ?_
        refine aw_v [.ref r, .int (nI 4)] [.ref na, .int (nI 16), .ref σ2.2.1, .ref σ2.2.1] rfl (by decide) rfl e6 rfl rfl (Nat.le_of_ble_eq_true rfl) (Nat.le_of_ble_eq_true rfl) ?_
        refine c_num e1 e6 e7 (by omega) (by omega) ?_
        have hu := sp_le_lt (β := β) (p := s + 1) (w := 4) (fun i hi => by obtain ⟨-, f, -, hf⟩ := a7; exact (hf (s + 1 + i) (by omega)).1)
        have hat4 := rdx.at (g := g) (p' := s + 1 + 4) e5 e6
        have hc4 : (am_set σ3 r (.inr (3, [.ref t, .int (nI (s + 1 + 4))]))).1 σ2.2.1 = some (.inr (1, am_def 1)) := by rw [am_set_ne _ _ (by omega)]; exact hc3
        generalize am_set σ3 r (.inr (3, [.ref t, .int (nI (s + 1 + 4))])) = σ4 at hat4 hc4 ⊢
        have ho4 := ho3.go hat4
        obtain ⟨f1, f2, f3, f4, f5, f6, f7, f8⟩ := id ho4
        refine aw_run 2 (F' := (139, [some (.ref r), some (.int (nI e)), some (.int (nI dep)), some (.int (nI 16)), some (.ref na)], [.long ((lN (sp_le β (s + 1) 4)).toInt32.toInt64), .ref na, .int (nI 16), .ref σ2.2.1, .ref σ2.2.1])) rfl ?_
        refine aw_sta rfl ?_
        refine aw_i [.ref σ2.2.1, .int (nI 16), .ref na, .long ((lN (sp_le β (s + 1) 4)).toInt32.toInt64), .ref g.2] [.ref σ2.2.1] rfl (by decide) rfl rfl rfl (Nat.le_of_ble_eq_true rfl) (Nat.le_of_ble_eq_true rfl) ?_
        refine c_mk1 (by omega) c4 hc4 f8 ?_
        refine aw_run 1 (F' := (149, [some (.ref r), some (.int (nI e)), some (.int (nI dep)), some (.int (nI 16)), some (.ref na)], [.ref σ2.2.1])) rfl ?_
        have htot := ((hat2'.trans (hat3.trans hat4)).setx (c := .inr (1, [.int (nI 16), .ref na, .long ((lN (sp_le β (s + 1) 4)).toInt32.toInt64), .ref g.2, .int (nI 0), .null, .null, .null])) hx2 (by omega) hc4).mono (k' := 2 * (s + 5 - p)) (m' := 10 * (s + 5 - p)) (by omega) (by show 0 + (s - (p + 1)) + (0 + 8 + 0) ≤ _; omega)
        have hl := lfx_mk (g := g) (σ' := σ4) (lo := σ2.2.1) (x := σ2.2.1) (k := 16) (na := na) (num := (lN (sp_le β (s + 1) 4)).toInt32.toInt64) (Nat.le_refl _) (f5 _ _ hc4) (by omega) f8
        have hna4 : bya (am_set σ4 σ2.2.1 (.inr (1, [.int (nI 16), .ref na, .long ((lN (sp_le β (s + 1) 4)).toInt32.toInt64), .ref g.2, .int (nI 0), .null, .null, .null]))).1 na (sp_sub β (p + 1) s) := by
          have hnl : na < σ2.2.1 := by
            rcases hz with z | z <;> omega
          have hnr : na ≠ r := by
            rcases hz with z | z <;> omega
          refine hna.kept ?_
          rw [am_set_ne _ _ (by omega), hat4.2.1 na (by have := hat3.2.2.1; omega) hnr, hat3.2.1 na hnl hnr]
        have hel := elz_lf (σ := σ2) (lo := σ.2.1) (by unfold kd; omega) hx2 hna4 hz (by omega) hl
        rw [s32_of hu] at hel
        exact aw_aret rfl ⟨_, rfl, Or.inl ⟨_, rfl⟩⟩ (hS _ _ _ σ2.2.1 rfl (by omega) h2 htot hel)
      · rw [if_neg (fun q => h2 (by omega))]
        rw [if_neg h2] at hN
        refine aw_zeq rfl (fun _ => ?_) (fun z => absurd rfl z)
        refine aw_run 1 (F' := (149, [some (.ref r), some (.int (nI e)), some (.int (nI dep)), some (.int (nI 16)), some (.ref na)], [.null])) rfl ?_
        exact aw_nret rfl ⟨_, rfl, Or.inl ⟨_, rfl⟩⟩ (hN rfl σ2 (s + 1) (gofail σ2 _ ((rok.self ho2).mono (by omega) (by omega))))
    · rw [if_neg k16] at hN hS
      by_cases k18 : β p = 18
      · rw [k18] at hN hS ⊢
        rw [if_pos rfl] at hN hS
        refine aw_tsw 150 rfl (Or.inr ⟨by decide, by decide, _, rfl, by decide⟩) ?_
        refine aw_run 3 (F' := (154, [some (.ref r), some (.int (nI e)), some (.int (nI dep)), some (.int (nI 18)), some (.ref na)], [.int (nI e), .int (nI 8), .ref r])) rfl ?_
        refine aw_v [.ref r, .int (nI 8), .int (nI e)] [] rfl (by decide) rfl c6 rfl rfl (Nat.le_of_ble_eq_true rfl) (Nat.le_of_ble_eq_true rfl) ?_
        refine c_has c6 c7 (by omega) (by omega) (by omega) ?_
        by_cases h2 : s + 9 ≤ e
        · rw [if_pos ⟨by omega, he⟩]
          rw [if_pos h2] at hS
          refine aw_zeq rfl (fun z => absurd z (by decide)) (fun _ => ?_)
          refine aw_new rfl ?_
          have hat3 := (rok.self ho2).new (c := .inr (1, am_def 1)) (n := am_nf 1)
          have hc3 := am_psh_same σ2 (.inr (1, am_def 1)) (am_nf 1)
          generalize am_psh σ2 (.inr (1, am_def 1)) (am_nf 1) = σ3 at hat3 hc3 ⊢
          have ho3 := ho2.go hat3
          have ho3' := ho3
          obtain ⟨e1, e2, e3, e4, e5, e6, e7, e8⟩ := ho3'
          refine aw_run 5 (F' := (170, [some (.ref r), some (.int (nI e)), some (.int (nI dep)), some (.int (nI 18)), some (.ref na)], [.int (nI 8), .ref r, .ref na, .int (nI 18), .ref σ2.2.1, .ref σ2.2.1])) rfl ?_
          refine aw_v [.ref r, .int (nI 8)] [.ref na, .int (nI 18), .ref σ2.2.1, .ref σ2.2.1] rfl (by decide) rfl e6 rfl rfl (Nat.le_of_ble_eq_true rfl) (Nat.le_of_ble_eq_true rfl) ?_
          refine c_num e1 e6 e7 (by omega) (by omega) ?_
          have hu := sp_le_lt (β := β) (p := s + 1) (w := 8) (fun i hi => by obtain ⟨-, f, -, hf⟩ := a7; exact (hf (s + 1 + i) (by omega)).1)
          have hat4 := rdx.at (g := g) (p' := s + 1 + 8) e5 e6
          have hc4 : (am_set σ3 r (.inr (3, [.ref t, .int (nI (s + 1 + 8))]))).1 σ2.2.1 = some (.inr (1, am_def 1)) := by rw [am_set_ne _ _ (by omega)]; exact hc3
          generalize am_set σ3 r (.inr (3, [.ref t, .int (nI (s + 1 + 8))])) = σ4 at hat4 hc4 ⊢
          have ho4 := ho3.go hat4
          obtain ⟨f1, f2, f3, f4, f5, f6, f7, f8⟩ := id ho4
          refine aw_sta rfl ?_
          refine aw_i [.ref σ2.2.1, .int (nI 18), .ref na, .long (lN (sp_le β (s + 1) 8)), .ref g.2] [.ref σ2.2.1] rfl (by decide) rfl rfl rfl (Nat.le_of_ble_eq_true rfl) (Nat.le_of_ble_eq_true rfl) ?_
          refine c_mk1 (by omega) c4 hc4 f8 ?_
          refine aw_run 1 (F' := (183, [some (.ref r), some (.int (nI e)), some (.int (nI dep)), some (.int (nI 18)), some (.ref na)], [.ref σ2.2.1])) rfl ?_
          have htot := ((hat2'.trans (hat3.trans hat4)).setx (c := .inr (1, [.int (nI 18), .ref na, .long (lN (sp_le β (s + 1) 8)), .ref g.2, .int (nI 0), .null, .null, .null])) hx2 (by omega) hc4).mono (k' := 2 * (s + 9 - p)) (m' := 10 * (s + 9 - p)) (by omega) (by show 0 + (s - (p + 1)) + (0 + 8 + 0) ≤ _; omega)
          have hl := lfx_mk (g := g) (σ' := σ4) (lo := σ2.2.1) (x := σ2.2.1) (k := 18) (na := na) (num := lN (sp_le β (s + 1) 8)) (Nat.le_refl _) (f5 _ _ hc4) (by omega) f8
          have hna4 : bya (am_set σ4 σ2.2.1 (.inr (1, [.int (nI 18), .ref na, .long (lN (sp_le β (s + 1) 8)), .ref g.2, .int (nI 0), .null, .null, .null]))).1 na (sp_sub β (p + 1) s) := by
            have hnl : na < σ2.2.1 := by
              rcases hz with z | z <;> omega
            have hnr : na ≠ r := by
              rcases hz with z | z <;> omega
            refine hna.kept ?_
            rw [am_set_ne _ _ (by omega), hat4.2.1 na (by have := hat3.2.2.1; omega) hnr, hat3.2.1 na hnl hnr]
          have hel := elz_lf (σ := σ2) (lo := σ.2.1) (by unfold kd; omega) hx2 hna4 hz (by omega) hl
          rw [s64_of hu] at hel
          exact aw_aret rfl ⟨_, rfl, Or.inl ⟨_, rfl⟩⟩ (hS _ _ _ σ2.2.1 rfl (by omega) h2 htot hel)
        · rw [if_neg (fun q => h2 (by omega))]
          rw [if_neg h2] at hN
          refine aw_zeq rfl (fun _ => ?_) (fun z => absurd rfl z)
          refine aw_run 1 (F' := (183, [some (.ref r), some (.int (nI e)), some (.int (nI dep)), some (.int (nI 18)), some (.ref na)], [.null])) rfl ?_
          exact aw_nret rfl ⟨_, rfl, Or.inl ⟨_, rfl⟩⟩ (hN rfl σ2 (s + 1) (gofail σ2 _ ((rok.self ho2).mono (by omega) (by omega))))
      · rw [if_neg k18] at hN hS
        by_cases k8 : β p = 8
        · rw [k8] at hN hS ⊢
          rw [if_pos rfl] at hN hS
          refine aw_tsw 184 rfl (Or.inr ⟨by decide, by decide, _, rfl, by decide⟩) ?_
          refine aw_run 3 (F' := (188, [some (.ref r), some (.int (nI e)), some (.int (nI dep)), some (.int (nI 8)), some (.ref na)], [.int (nI e), .ref na, .ref r])) rfl ?_
          refine aw_v [.ref r, .ref na, .int (nI e)] [] rfl (by decide) rfl c6 rfl rfl (Nat.le_of_ble_eq_true rfl) (Nat.le_of_ble_eq_true rfl) ?_
          refine c_rtr c1 c3 c4 c5 c6 c7 c8 (by omega) he (fun z σ' p' h => ?_) (fun z σ' x h hl => ?_)
          · rw [if_neg (fun y => z ⟨by omega, y.2⟩)] at hN
            exact aw_nret rfl ⟨_, rfl, Or.inl ⟨_, rfl⟩⟩ (hN rfl σ' p' (gofail σ' p' (h.mono (by omega) (by omega))))
          · rw [if_pos ⟨by omega, z.2⟩] at hS
            have hna4 : bya σ'.1 na (sp_sub β (p + 1) s) := hna.kept (h.2.1 na (by rcases hz with y | y <;> omega) (by rcases hz with y | y <;> omega))
            have hel := elz_lf (σ := σ2) (lo := σ.2.1) (by unfold kd; omega) hx2 hna4 hz (by omega) hl
            have hb1 : β (s + 1) < 256 := by obtain ⟨-, f, -, hf⟩ := a7; exact (hf (s + 1) (by omega)).1
            rw [lN_toInt64 (by omega)] at hel
            exact aw_aret rfl ⟨_, rfl, Or.inl ⟨_, rfl⟩⟩ (hS _ _ σ' x rfl (by omega) (by omega) ((hat2'.trans h).mono (by omega) (by omega)) hel)
        · rw [if_neg k8] at hN hS
          by_cases k10 : β p = 10
          · rw [k10] at hN hS ⊢
            rw [if_pos rfl] at hN hS
            refine aw_tsw 192 rfl (Or.inr ⟨by decide, by decide, _, rfl, by decide⟩) ?_
            refine aw_new rfl ?_
            have hat3 := (rok.self ho2).new (c := .inr (1, am_def 1)) (n := am_nf 1)
            have hc3 := am_psh_same σ2 (.inr (1, am_def 1)) (am_nf 1)
            generalize am_psh σ2 (.inr (1, am_def 1)) (am_nf 1) = σ3 at hat3 hc3 ⊢
            have ho3 := ho2.go hat3
            have ho3' := ho3
            obtain ⟨e1, e2, e3, e4, e5, e6, e7, e8⟩ := ho3'
            refine aw_run 4 (F' := (200, [some (.ref r), some (.int (nI e)), some (.int (nI dep)), some (.int (nI 10)), some (.ref na)], [.long 0, .ref na, .int (nI 10), .ref σ2.2.1, .ref σ2.2.1])) rfl ?_
            refine aw_sta rfl ?_
            refine aw_i [.ref σ2.2.1, .int (nI 10), .ref na, .long 0, .ref g.2] [.ref σ2.2.1] rfl (by decide) rfl rfl rfl (Nat.le_of_ble_eq_true rfl) (Nat.le_of_ble_eq_true rfl) ?_
            refine c_mk1 (by omega) c4 hc3 e8 ?_
            have htot := ((hat2'.trans hat3).setx (c := .inr (1, [.int (nI 10), .ref na, .long 0, .ref g.2, .int (nI 0), .null, .null, .null])) hx2 (by omega) hc3).mono (k' := 2 * (s + 1 - p)) (m' := 10 * (s + 1 - p)) (by omega) (by show 0 + (s - (p + 1)) + (0 + 8) ≤ _; omega)
            have hl := lfx_mk (g := g) (σ' := σ3) (lo := σ2.2.1) (x := σ2.2.1) (k := 10) (na := na) (num := 0) (Nat.le_refl _) (e5 _ _ hc3) (by omega) e8
            have hna4 : bya (am_set σ3 σ2.2.1 (.inr (1, [.int (nI 10), .ref na, .long 0, .ref g.2, .int (nI 0), .null, .null, .null]))).1 na (sp_sub β (p + 1) s) := by
              have hnl : na < σ2.2.1 := by
                rcases hz with z | z <;> omega
              have hnr : na ≠ r := by
                rcases hz with z | z <;> omega
              refine hna.kept ?_
              rw [am_set_ne _ _ (by omega), hat3.2.1 na hnl hnr]
            have hel := elz_lf (σ := σ2) (lo := σ.2.1) (by unfold kd; omega) hx2 hna4 hz (by omega) hl
            exact aw_aret rfl ⟨_, rfl, Or.inl ⟨_, rfl⟩⟩ (hS _ _ _ σ2.2.1 rfl (by omega) (by omega) htot hel)
          · rw [if_neg k10] at hN hS
            by_cases k2 : β p = 2
            · rw [k2] at hN hS ⊢
              rw [if_pos rfl] at hN hS
              refine aw_tsw 207 rfl (Or.inr ⟨by decide, by decide, _, rfl, by decide⟩) ?_
              refine aw_run 3 (F' := (211, [some (.ref r), some (.int (nI e)), some (.int (nI dep)), some (.int (nI 2)), some (.ref na)], [.int (nI e), .ref na, .ref r])) rfl ?_
              refine aw_v [.ref r, .ref na, .int (nI e)] [] rfl (by decide) rfl c6 rfl rfl (Nat.le_of_ble_eq_true rfl) (Nat.le_of_ble_eq_true rfl) ?_
              refine c_rtx c1 c2 c3 c4 c5 c6 c7 c8 (by omega) he (fun z σ' p' h => ?_) (fun z σ' x h hl => ?_)
              · rw [if_neg z] at hN
                exact aw_nret rfl ⟨_, rfl, Or.inl ⟨_, rfl⟩⟩ (hN rfl σ' p' (gofail σ' p' (h.mono (by omega) (by omega))))
              · rw [if_pos z] at hS
                have hna4 : bya σ'.1 na (sp_sub β (p + 1) s) := hna.kept (h.2.1 na (by rcases hz with y | y <;> omega) (by rcases hz with y | y <;> omega))
                have hel := elz_lf (σ := σ2) (lo := σ.2.1) (by unfold kd; omega) hx2 hna4 hz (by omega) hl
                have z3 := z.2.2.1
                exact aw_aret rfl ⟨_, rfl, Or.inl ⟨_, rfl⟩⟩ (hS _ _ σ' x rfl (by omega) z3 ((hat2'.trans h).mono (by omega) (by omega)) hel)
            · rw [if_neg k2] at hN hS
              have nest : ∀ (kk : Nat) (row : Bool), kk = (if row = true then 4 else 3) → (∀ (hN' : sp_nst (sp_es β n) β (dep + 1) row (s + 1) e = none → ∀ (σ' : am_H) (p' : Nat), rdx g r t σ σ' p' (2 * (e - p)) (10 * (e - p)) → Q (some .null) σ') (hS' : ∀ (c : sp_F) (q : Nat) (σ' : am_H) (x : Nat), sp_nst (sp_es β n) β (dep + 1) row (s + 1) e = some (c, q) → rdx g r t σ σ' q (2 * (q - p)) (10 * (q - p)) → elz g σ'.1 σ.2.1 σ'.2.1 x ((kk, sp_sub β (p + 1) s, 0, []), c) none → Q (some (.ref x)) σ'), AW g (d + 5) 14 (215, [some (.ref r), some (.int (nI e)), some (.int (nI dep)), some (.int (nI kk)), some (.ref na)], []) σ2 Q) := by
                intro kk row hkk hN' hS'
                refine aw_run 7 (F' := (223, [some (.ref r), some (.int (nI e)), some (.int (nI dep)), some (.int (nI kk)), some (.ref na)], [.int (nI dep + 1), .int (nI e), .ref na, .int (nI kk), .ref r])) rfl ?_
                rw [nI_1]
                refine aw_v [.ref r, .int (nI kk), .ref na, .int (nI e), .int (nI (dep + 1))] [] rfl (by decide) rfl c6 rfl rfl (Nat.le_of_ble_eq_true rfl) (Nat.le_of_ble_eq_true rfl) ?_
                refine hRN g (d + 4) σ2 _ r na (s + 1) e (dep + 1) σ.2.1 kk row (sp_sub β (p + 1) s) ho2 (by omega) he (by omega) hna hz hx2 hrl (by omega) (by omega) (by omega) (by omega) hkk (fun z σ' p' h => ?_) (fun c q σ' x z h hel => ?_)
                · exact aw_nret rfl ⟨_, rfl, Or.inl ⟨_, rfl⟩⟩ (hN' z σ' p' ((hat2'.trans h).mono (by omega) (by omega)))
                · have := sp_nst_le z
                  exact aw_aret rfl ⟨_, rfl, Or.inl ⟨_, rfl⟩⟩ (hS' c q σ' x z ((hat2'.trans h).mono (by omega) (by omega)) hel)
              by_cases k3 : β p = 3
              · rw [k3] at hN hS ⊢
                rw [if_pos rfl] at hN hS
                refine aw_tsw 215 rfl (Or.inr ⟨by decide, by decide, _, rfl, by decide⟩) ?_
                refine nest 3 false rfl (fun z => ?_) (fun c q σ' x z h hel => ?_)
                · rw [z] at hN
                  exact hN rfl
                · rw [z] at hS
                  have := sp_nst_le z
                  exact hS _ _ σ' x rfl (by omega) (by omega) h hel
              · rw [if_neg k3] at hN hS
                by_cases k4 : β p = 4
                · rw [k4] at hN hS ⊢
                  rw [if_pos rfl] at hN hS
                  refine aw_tsw 215 rfl (Or.inr ⟨by decide, by decide, _, rfl, by decide⟩) ?_
                  refine nest 4 true rfl (fun z => ?_) (fun c q σ' x z h hel => ?_)
                  · rw [z] at hN
                    exact hN rfl
                  · rw [z] at hS
                    have := sp_nst_le z
                    exact hS _ _ σ' x rfl (by omega) (by omega) h hel
                · rw [if_neg k4] at hN
                  have hsw : am_tsw 33 194 2 18 #[174, 182, 182, 194, 194, 194, 151, 194, 159, 194, 194, 194, 194, 194, 83, 194, 117] (nI (β p)) 227 := by
                    by_cases hbig : 18 < β p
                    · exact Or.inl ⟨Or.inr (by rw [nI_toInt (by omega)]; omega), by decide⟩
                    · rcases (by omega : β p = 0 ∨ β p = 1 ∨ β p = 5 ∨ β p = 6 ∨ β p = 7 ∨ β p = 9 ∨ β p = 11 ∨ β p = 12 ∨ β p = 13 ∨ β p = 14 ∨ β p = 15 ∨ β p = 17) with y | y | y | y | y | y | y | y | y | y | y | y <;> rw [y]
                      · exact Or.inl ⟨by decide, by decide⟩
                      · exact Or.inl ⟨by decide, by decide⟩
                      all_goals exact Or.inr ⟨by decide, by decide, 194, rfl, by decide⟩
                  refine aw_tsw 227 rfl hsw ?_
                  refine aw_run 1 (F' := (228, [some (.ref r), some (.int (nI e)), some (.int (nI dep)), some (.int (nI (β p))), some (.ref na)], [.null])) rfl ?_
                  exact aw_nret rfl ⟨_, rfl, Or.inl ⟨_, rfl⟩⟩ (hN rfl σ2 (s + 1) (gofail σ2 _ ((rok.self ho2).mono (by omega) (by omega))))
end P35
end
section
theorem chn.last {g : Nat × Nat} {h : Nat → Option am_C} : ∀ {l : List sp_V} {as : List Nat} {lo hi y : Nat}, chn g h l as lo hi → as.getLast? = some y → lo ≤ y ∧ y < hi ∧ ∃ v0 v1 v2 v3 v4 v5 v6 v7 : Value, h y = some (.inr (1, [v0, v1, v2, v3, v4, v5, v6, v7]))
  | [], [], _, _, _, _, e => by cases e
  | [v], [x], lo, hi, y, ⟨mid, ⟨h1, h2, fi, la, ⟨_, _, na, ba, num, _, _, h3, _⟩, _⟩, q⟩, e => by
    have hm : mid ≤ hi := q
    simp at e
    subst e
    exact ⟨h1, by omega, _, _, _, _, _, _, _, _, h3⟩
  | v :: v1 :: l, x :: x1 :: as, lo, hi, y, ⟨mid, ⟨h1, h2, _⟩, q⟩, e => by
    obtain ⟨a1, a2, a3⟩ := chn.last q (y := y) (by simpa using e)
    exact ⟨by omega, a2, a3⟩
  | [], _ :: _, _, _, _, q, _ => q.elim
  | _ :: _, [], _, _, _, q, _ => q.elim
  | [_], _ :: _ :: _, _, _, _, ⟨_, _, q⟩, _ => q.elim
  | _ :: _ :: _, [_], _, _, _, ⟨_, _, q⟩, _ => q.elim
theorem chn.len {g : Nat × Nat} {h : Nat → Option am_C} : ∀ {l : List sp_V} {as : List Nat} {lo hi : Nat}, chn g h l as lo hi → l.length = as.length
  | [], [], _, _, _ => rfl
  | _ :: _, _ :: _, _, _, ⟨_, _, q⟩ => by simp [chn.len q]
  | [], _ :: _, _, _, q => q.elim
  | _ :: _, [], _, _, q => q.elim
/-- a nest, its node and its chain, is a value -/
theorem nest_elz {g : Nat × Nat} {h : Nat → Option am_C} {lo x hi na k : Nat} {nm : List Nat} {l : List sp_V} {as : List Nat} (hk : kd k) (hl : l.length < 65536) (hx : h x = some (.inr (1, [.int (nI k), .ref na, .long 0, .ref g.2, .int (nI l.length), va_rf as.head?, va_rf as.getLast?, .null]))) (hlo : lo ≤ x) (hhi : x < hi) (hn : bya h na nm) (hz : (lo ≤ na ∧ na < x) ∨ na = g.2) (hnb : bya h g.2 []) (hc : chn g h l as (x + 1) hi) : elz g h lo hi x ((k, nm, 0, []), sp_ofL l) none := by
  refine ⟨hlo, hhi, as.head?, as.getLast?, ⟨hk, ?_, na, g.2, 0, ?_, Or.inr rfl, ?_, rfl, hn, hnb⟩, ?_⟩
  · show 0 + sp_len (sp_ofL l) < 65536
    rw [sp_len_ofL]
    omega
  · rcases hz with ⟨a, b⟩ | a
    · exact Or.inl ⟨a, by omega, by omega⟩
    · exact Or.inr a
  · show h x = some (.inr (1, [.int (nI k), .ref na, .long 0, .ref g.2, .int (nI (0 + sp_len (sp_ofL l))), va_rf as.head?, va_rf as.getLast?, va_rf none]))
    rw [sp_len_ofL, Nat.zero_add]
    exact hx
  · refine hc.frz.kept (fun _ _ => rfl) ?_
    intro a ha
    rcases ha with ⟨b, c⟩ | b
    · exact Or.inl ⟨by omega, c, by omega⟩
    · exact Or.inr b
/-- what isDecimal must do (its contract is wanting until it keeps the document) -/
def decOK : Prop := ∀ (g : Nat × Nat) (d : Nat) (σ : am_H) (Q : Option Value → am_H → Prop) (a k : Nat) (l : List Nat), bya σ.1 a l → k < 65536 → Q (some (.int (if l = sp_dec k then 1 else 0))) σ → AW g (d + 1) 24 (0, [some (.ref a), some (.int (nI k)), none, none, none], []) σ Q
section P36
variable {g : Nat × Nat} {d : Nat} {σ : am_H} {Q : Option Value → am_H → Prop}
/-- Value.admitsName -/
theorem c_adm_open (hD : decOK) {Z : Nat → Prop} {x w k : Nat} {row : Bool} {nm : List Nat} {l : List sp_V} {fi : Option Nat} {w1 w2 w3 w6 w7 : Value} (hk : k = (if row = true then 4 else 3)) (hl : l.length < 65536) (hx : σ.1 x = some (.inr (1, [.int (nI k), w1, w2, w3, .int (nI l.length), va_rf fi, w6, w7]))) (hw : bya σ.1 w nm) (hc : frz Z σ.1 (sp_ofL l) fi) (h1 : sp_adm row l nm → Q (some (.int 1)) σ) (h2 : ¬ sp_adm row l nm → Q (some (.int 0)) σ) : AW g (d + 3) 23 (0, [some (.ref x), some (.ref w)], []) σ Q := by
  refine aw_run 1 (F' := (1, [some (.ref x), some (.ref w)], [.ref x])) rfl ?_
  refine aw_get rfl hx rfl ?_
  refine aw_run 1 (F' := (5, [some (.ref x), some (.ref w)], [.int (nI 4), .int (nI k)])) rfl ?_
  cases row with
  | true =>
    have hk4 : k = 4 := hk
    subst hk4
    refine aw_cne rfl (fun z => absurd rfl z) (fun _ => ?_)
    refine aw_run 2 (F' := (10, [some (.ref x), some (.ref w)], [.ref x, .ref w])) rfl ?_
    refine aw_get rfl hx rfl ?_
    refine aw_s [.ref w, .int (nI l.length)] [] rfl ⟨by decide, by decide⟩ rfl rfl (Nat.le_of_ble_eq_true rfl) (Nat.le_of_ble_eq_true rfl) ?_
    refine hD g (d + 1) σ _ w l.length nm hw hl ?_
    by_cases q : nm = sp_dec l.length
    · rw [if_pos q]
      refine aw_run 1 (F' := (32, [some (.ref x), some (.ref w)], [.int 1])) rfl ?_
      exact aw_iret rfl ⟨_, rfl, rfl⟩ (h1 q)
    · rw [if_neg q]
      refine aw_run 1 (F' := (32, [some (.ref x), some (.ref w)], [.int 0])) rfl ?_
      exact aw_iret rfl ⟨_, rfl, rfl⟩ (h2 q)
  | false =>
    have hk3 : k = 3 := hk
    subst hk3
    refine aw_cne rfl (fun _ => ?_) (fun z => absurd (by decide) z)
    refine aw_run 2 (F' := (21, [some (.ref x), some (.ref w)], [.ref w, .ref x])) rfl ?_
    refine aw_v [.ref x, .ref w] [] rfl (by decide) rfl hx rfl rfl (Nat.le_of_ble_eq_true rfl) (Nat.le_of_ble_eq_true rfl) ?_
    refine c_elem hx hw hc (fun q => ?_) (fun y v q _ => ?_)
    · refine aw_ifnon_n rfl ?_
      refine aw_run 2 (F' := (32, [some (.ref x), some (.ref w)], [.int 1])) rfl ?_
      exact aw_iret rfl ⟨_, rfl, rfl⟩ (h1 q)
    · refine aw_ifnon_r rfl ?_
      refine aw_run 1 (F' := (32, [some (.ref x), some (.ref w)], [.int 0])) rfl ?_
      exact aw_iret rfl ⟨_, rfl, rfl⟩ (h2 (fun z => by have z' : sp_fnd nm (sp_ofL l) = none := z; rw [z'] at q; cases q))
end P36
end
section
/-- readNest's loop -/
def NL (β : Nat → Nat) (N t n : Nat) : Prop := ∀ (g : Nat × Nat) (d : Nat) (σ0 σ : am_H) (Q : Option Value → am_H → Prop) (r na p e dep k x p0 : Nat) (E u : Int32) (row : Bool) (l : List sp_V) (as : List Nat) (o : Option Value), rok g σ0 r t N p0 β → p0 + 4 + 2 * l.length ≤ p → p ≤ e → e ≤ N → e < p + n → 1 ≤ dep → dep ≤ 16 → 2 * (17 - dep) + 6 ≤ d → k = (if row = true then 4 else 3) → σ0.2.1 ≤ x → rdx g r t σ0 σ p (2 * (p - p0)) (10 * (p - p0)) →
  σ.1 x = some (.inr (1, [.int (nI k), .ref na, .long 0, .ref g.2, .int (nI l.length), va_rf as.head?, va_rf as.getLast?, .null])) → chn g σ.1 l as (x + 1) σ.2.1 →
  (sp_es β n dep row p e l = none → ∀ (σ' : am_H) (p' : Nat), rdx g r t σ0 σ' p' (2 * (e - p0)) (10 * (e - p0)) → Q (some .null) σ') →
  (∀ (l' : List sp_V) (as' : List Nat) (o' : Option Value) (σ' : am_H), sp_es β n dep row p e l = some l' → l'.length < 2000 → rdx g r t σ0 σ' e (2 * (e - p0)) (10 * (e - p0)) → σ'.1 x = some (.inr (1, [.int (nI k), .ref na, .long 0, .ref g.2, .int (nI l'.length), va_rf as'.head?, va_rf as'.getLast?, .null])) → chn g σ'.1 l' as' (x + 1) σ'.2.1 → AW g d 11 (136, [some (.ref r), some (.int (nI k)), some (.ref na), some (.int E), some (.int (nI dep)), some (.int (nI p0)), some (.int u), some (.int (nI e)), some (.ref x), some (.int (nI l'.length)), o'], []) σ' Q) →
  AW g d 11 (76, [some (.ref r), some (.int (nI k)), some (.ref na), some (.int E), some (.int (nI dep)), some (.int (nI p0)), some (.int u), some (.int (nI e)), some (.ref x), some (.int (nI l.length)), o], []) σ Q
theorem NL_0 (β : Nat → Nat) (N t : Nat) : NL β N t 0 := by
  intro g d σ0 σ Q r na p e dep k x p0 E u row l as o h1 h2 h3 h4 h5
  omega
/-- the state behind an append -/
theorem app_ok {g : Nat × Nat} {r t q x y k na : Nat} {σ σ1 : am_H} {l : List sp_V} {as : List Nat} {v : sp_V} {d : Nat} {Q : Option Value → am_H → Prop} (hgx : g.1 ≤ x) (hg2 : g.2 < g.1) (hl : l.length < 2000) (hrx : r < x) (hmid : x < σ.2.1) (hmid1 : σ.2.1 ≤ σ1.2.1)
    (hx : σ1.1 x = some (.inr (1, [.int (nI k), .ref na, .long 0, .ref g.2, .int (nI l.length), va_rf as.head?, va_rf as.getLast?, .null]))) (hc : chn g σ1.1 l as (x + 1) σ.2.1) (hv : elz g σ1.1 σ.2.1 σ1.2.1 y v none)
    (hQ : ∀ σ2 : am_H, (∀ (σ0 : am_H) (K M : Nat), rdx g r t σ0 σ1 q K M → σ0.2.1 ≤ x → rdx g r t σ0 σ2 q K M) → σ2.1 x = some (.inr (1, [.int (nI k), .ref na, .long 0, .ref g.2, .int (nI (l ++ [v]).length), va_rf (as ++ [y]).head?, va_rf (as ++ [y]).getLast?, .null])) → chn g σ2.1 (l ++ [v]) (as ++ [y]) (x + 1) σ2.2.1 → Q none σ2) : AW g d 27 (0, [some (.ref x), some (.ref y)], []) σ1 Q := by
  have hlen : (l ++ [v]).length = l.length + 1 := by simp
  cases hz : as.getLast? with
  | none =>
    have has : as = [] := List.getLast?_eq_none_iff.mp hz
    subst has
    have hl0 := hc.len
    refine c_app1 hgx (by omega) (hx.trans rfl) (hQ _ (fun σ0 K M h h0 => ?_) ?_ ?_)
    · exact h.setx h0 (by omega) hx
    · rw [am_set_same, hlen]
      rfl
    · refine chn.app (h := σ1.1) (by omega) (am_set_ne _ _ (by omega)) (hv.kept (fun a a1 a2 => am_set_ne _ _ (by omega)) (am_set_ne _ _ (by omega))) (by omega) hc (fun a a1 a2 _ => am_set_ne _ _ (by omega)) (fun z hz => by cases hz)
  | some z =>
    obtain ⟨z1, z2, v0, v1, v2, v3, v4, v5, v6, v7, hzc⟩ := hc.last hz
    rw [hz] at hx
    refine c_app2 hgx (by omega) (by omega) (by omega) (hx.trans rfl) hzc (hQ _ (fun σ0 K M h h0 => ?_) ?_ ?_)
    · have h1 := h.setx (x := z) (c := .inr (1, [v0, v1, v2, v3, v4, v5, v6, .ref y])) (by omega) (by omega) hzc
      exact h1.setx h0 (by omega) ((am_set_ne _ _ (by omega)).trans hx)
    · rw [am_set_same, hlen]
      cases as with
      | nil => cases hz
      | cons a as =>
        have e1 : (a :: as ++ [y]).getLast? = some y := by rw [List.getLast?_append]; rfl
        rw [e1]
        rfl
    · refine chn.app (h := σ1.1) (by omega) ((am_set_ne _ _ (by omega)).trans (am_set_ne _ _ (by omega))) (hv.kept (fun a a1 a2 => (am_set_ne _ _ (by omega)).trans (am_set_ne _ _ (by omega))) ((am_set_ne _ _ (by omega)).trans (am_set_ne _ _ (by omega)))) (by omega) hc (fun a a1 a2 a3 => (am_set_ne _ _ (by omega)).trans (am_set_ne _ _ (fun q => a3 (by rw [q]; exact hz)))) (fun z' hz' w hw => ?_)
      rw [hz] at hz'
      cases hz'
      rw [hzc] at hw
      cases hw
      rw [am_set_ne _ _ (by omega), am_set_same]
      rfl
set_option maxHeartbeats 4000000 in
theorem NL_S {β : Nat → Nat} {N t n : Nat} (hD : decOK) (hN2 : N ≤ 2000) (hRN : RN β N t n) (ih : NL β N t n) : NL β N t (n + 1) := by
  intro g d σ0 σ Q r na p e dep k x p0 E u row l as o ho0 h2 h3 h4 h5 d1 d2 hd hk hx0 hat hx hc hN hS
  have ho := ho0.go hat
  have ho' := ho
  obtain ⟨a1, a2, a3, a4, a5, a6, a7, a8⟩ := ho'
  have hr0 : r < σ0.2.1 := ho0.2.2.2.2.1 _ _ ho0.2.2.2.2.2.1
  have hg0 : g.1 ≤ σ0.2.1 := ho0.2.2.1
  have hxl := a5 _ _ hx
  have hl : l.length < 2000 := by omega
  refine aw_run 2 (F' := (81, [some (.ref r), some (.int (nI k)), some (.ref na), some (.int E), some (.int (nI dep)), some (.int (nI p0)), some (.int u), some (.int (nI e)), some (.ref x), some (.int (nI l.length)), o], [.int (nI 2000), .int (nI l.length)])) rfl ?_
  refine aw_cge rfl (fun q => absurd ((nI_leI (by omega) (by omega)).mp q) (by omega)) (fun _ => ?_)
  refine aw_run 1 (F' := (85, [some (.ref r), some (.int (nI k)), some (.ref na), some (.int E), some (.int (nI dep)), some (.int (nI p0)), some (.int u), some (.int (nI e)), some (.ref x), some (.int (nI l.length)), o], [.ref r])) rfl ?_
  refine aw_get rfl a6 rfl ?_
  refine aw_run 1 (F' := (90, [some (.ref r), some (.int (nI k)), some (.ref na), some (.int E), some (.int (nI dep)), some (.int (nI p0)), some (.int u), some (.int (nI e)), some (.ref x), some (.int (nI l.length)), o], [.int (nI e), .int (nI p)])) rfl ?_
  refine aw_cge rfl (fun q => ?_) (fun q => ?_)
  · have q' := (nI_leI (by omega) (by omega)).mp q
    have hpe : p = e := by omega
    subst hpe
    exact hS l as o σ (by simp [sp_es]) hl hat hx hc
  have q' : ¬ e ≤ p := fun z => q ((nI_leI (by omega) (by omega)).mpr z)
  obtain ⟨d, rfl⟩ : ∃ d', d = d' + 5 := ⟨d - 5, by omega⟩
  refine aw_run 3 (F' := (98, [some (.ref r), some (.int (nI k)), some (.ref na), some (.int E), some (.int (nI dep)), some (.int (nI p0)), some (.int u), some (.int (nI e)), some (.ref x), some (.int (nI l.length)), o], [.int (nI dep), .int (nI e), .ref r])) rfl ?_
  refine aw_v [.ref r, .int (nI e), .int (nI dep)] [] rfl (by decide) rfl a6 rfl rfl (Nat.le_of_ble_eq_true rfl) (Nat.le_of_ble_eq_true rfl) ?_
  have hes : sp_es β (n + 1) dep row p e l = (match sp_el (sp_nst (sp_es β n) β) β dep p e with
    | none => none
    | some (v, q) => if sp_adm row l v.1.2.1 then sp_es β n dep row q e (l ++ [v]) else none) := by
    rw [sp_es, if_neg q']
    rfl
  rw [hes] at hN
  simp only [hes] at hS
  refine c_rel (d := d + 4) hRN ho h3 h4 (by omega) d1 d2 (by omega) (fun z σ' p' h => ?_) (fun v q σ1 y z hq1 hq2 h hv => ?_)
  · rw [z] at hN
    refine aw_run 2 (F' := (105, [some (.ref r), some (.int (nI k)), some (.ref na), some (.int E), some (.int (nI dep)), some (.int (nI p0)), some (.int u), some (.int (nI e)), some (.ref x), some (.int (nI l.length)), some .null], [.null])) rfl ?_
    refine aw_ifnull_n rfl ?_
    refine aw_run 1 (F' := (122, [some (.ref r), some (.int (nI k)), some (.ref na), some (.int E), some (.int (nI dep)), some (.int (nI p0)), some (.int u), some (.int (nI e)), some (.ref x), some (.int (nI l.length)), some .null], [.null])) rfl ?_
    exact aw_nret rfl ⟨_, rfl, Or.inl ⟨_, rfl⟩⟩ (hN rfl σ' p' ((hat.trans h).mono (by omega) (by omega)))
  · rw [z] at hN
    simp only [z] at hS
    dsimp only at hN
    have htot := (hat.trans h).mono (k' := 2 * (q - p0)) (m' := 10 * (q - p0)) (by omega) (by omega)
    have hm1 : σ.2.1 ≤ σ1.2.1 := h.2.2.1
    have hx1 : σ1.1 x = some (.inr (1, [.int (nI k), .ref na, .long 0, .ref g.2, .int (nI l.length), va_rf as.head?, va_rf as.getLast?, .null])) := (h.2.1 x hxl (by omega)).trans hx
    have hc1 : chn g σ1.1 l as (x + 1) σ.2.1 := hc.kept (h.2.1 _ (by omega) (by omega)) (fun a b1 b2 => h.2.1 a b2 (by omega))
    have hv' := hv
    obtain ⟨y1, y2, fi, la, ⟨k1, k2, nb, bb, num, zz1, zz2, hyc, hnum, hnb, hbb⟩, hf⟩ := hv'
    refine aw_run 2 (F' := (105, [some (.ref r), some (.int (nI k)), some (.ref na), some (.int E), some (.int (nI dep)), some (.int (nI p0)), some (.int u), some (.int (nI e)), some (.ref x), some (.int (nI l.length)), some (.ref y)], [.ref y])) rfl ?_
    refine aw_ifnull_r rfl ?_
    refine aw_run 2 (F' := (112, [some (.ref r), some (.int (nI k)), some (.ref na), some (.int E), some (.int (nI dep)), some (.int (nI p0)), some (.int u), some (.int (nI e)), some (.ref x), some (.int (nI l.length)), some (.ref y)], [.ref y, .ref x])) rfl ?_
    refine aw_get rfl hyc rfl ?_
    refine aw_v [.ref x, .ref nb] [] rfl (by decide) rfl hx1 rfl rfl (Nat.le_of_ble_eq_true rfl) (Nat.le_of_ble_eq_true rfl) ?_
    refine c_adm_open (d := d + 1) hD hk (by omega) hx1 hnb hc1.frz (fun w => ?_) (fun w => ?_)
    · rw [if_pos w] at hN
      simp only [if_pos w] at hS
      refine aw_zne rfl (fun _ => ?_) (fun z => absurd (by decide) z)
      refine aw_run 2 (F' := (127, [some (.ref r), some (.int (nI k)), some (.ref na), some (.int E), some (.int (nI dep)), some (.int (nI p0)), some (.int u), some (.int (nI e)), some (.ref x), some (.int (nI l.length)), some (.ref y)], [.ref y, .ref x])) rfl ?_
      refine aw_v [.ref x, .ref y] [] rfl (by decide) rfl hx1 rfl rfl (Nat.le_of_ble_eq_true rfl) (Nat.le_of_ble_eq_true rfl) ?_
      refine app_ok (r := r) (t := t) (q := q) (by omega) a4 hl (by omega) hxl hm1 hx1 hc1 hv (fun σ2 hr2 hx2 hc2 => ?_)
      refine aw_run 2 (F' := (76, [some (.ref r), some (.int (nI k)), some (.ref na), some (.int E), some (.int (nI dep)), some (.int (nI p0)), some (.int u), some (.int (nI e)), some (.ref x), some (.int (nI l.length + 1)), some (.ref y)], [])) rfl ?_
      rw [nI_1]
      have hlen : l.length + 1 = (l ++ [v]).length := by simp
      rw [hlen]
      exact ih g (d + 5) σ0 σ2 Q r na q e dep k x p0 E u row (l ++ [v]) (as ++ [y]) _ ho0 (by rw [← hlen]; omega) hq2 h4 (by omega) d1 d2 hd hk hx0 (hr2 σ0 _ _ htot hx0) hx2 hc2 hN hS
    · rw [if_neg w] at hN
      refine aw_zne rfl (fun z => absurd rfl z) (fun _ => ?_)
      refine aw_run 1 (F' := (122, [some (.ref r), some (.int (nI k)), some (.ref na), some (.int E), some (.int (nI dep)), some (.int (nI p0)), some (.int u), some (.int (nI e)), some (.ref x), some (.int (nI l.length)), some (.ref y)], [.null])) rfl ?_
      exact aw_nret rfl ⟨_, rfl, Or.inl ⟨_, rfl⟩⟩ (hN rfl σ1 q (htot.mono (by omega) (by omega)))
set_option maxHeartbeats 4000000 in
theorem RN_of {β : Nat → Nat} {N t n : Nat} (hN2 : N ≤ 2000) (hL : NL β N t n) : RN β N t n := by
  intro g d σ Q r na p e dep lo k row nm ho hp he hen hna hz hlo hrlo hglo d1 d2 hd hk hN hS
  have ho' := ho
  obtain ⟨a1, a2, a3, a4, a5, a6, a7, a8⟩ := ho'
  have hrl := a5 _ _ a6
  obtain ⟨d, rfl⟩ : ∃ d', d = d' + 5 := ⟨d - 5, by omega⟩
  refine aw_run 1 (F' := (1, [some (.ref r), some (.int (nI k)), some (.ref na), some (.int (nI e)), some (.int (nI dep)), none, none, none, none, none, none], [.ref r])) rfl ?_
  refine aw_get rfl a6 rfl ?_
  refine aw_run 3 (F' := (10, [some (.ref r), some (.int (nI k)), some (.ref na), some (.int (nI e)), some (.int (nI dep)), some (.int (nI p)), none, none, none, none, none], [.int (nI 16), .int (nI dep)])) rfl ?_
  have fail : sp_nst (sp_es β n) β dep row p e = none → AW g (d + 5) 11 (22, [some (.ref r), some (.int (nI k)), some (.ref na), some (.int (nI e)), some (.int (nI dep)), some (.int (nI p)), none, none, none, none, none], []) σ Q := by
    intro z
    refine aw_run 1 (F' := (23, [some (.ref r), some (.int (nI k)), some (.ref na), some (.int (nI e)), some (.int (nI dep)), some (.int (nI p)), none, none, none, none, none], [.null])) rfl ?_
    exact aw_nret rfl ⟨_, rfl, Or.inl ⟨_, rfl⟩⟩ (hN z σ p (ho.self.mono (Nat.zero_le _) (Nat.zero_le _)))
  refine aw_cgt rfl (fun q => ?_) (fun q => ?_)
  · have q' := (nI_ltI (by omega) (by omega)).mp q
    exact fail (by unfold sp_nst; rw [if_pos (Or.inl q')])
  have q' : ¬ 16 < dep := fun z => q ((nI_ltI (by omega) (by omega)).mpr z)
  refine aw_run 3 (F' := (16, [some (.ref r), some (.int (nI k)), some (.ref na), some (.int (nI e)), some (.int (nI dep)), some (.int (nI p)), none, none, none, none, none], [.int (nI e), .int (nI 5), .ref r])) rfl ?_
  refine aw_v [.ref r, .int (nI 5), .int (nI e)] [] rfl (by decide) rfl a6 rfl rfl (Nat.le_of_ble_eq_true rfl) (Nat.le_of_ble_eq_true rfl) ?_
  refine c_has a6 a7 (by omega) hp (by omega) ?_
  by_cases h1 : p + 5 ≤ e
  · rw [if_pos ⟨h1, he⟩]
    refine aw_zne rfl (fun _ => ?_) (fun z => absurd (by decide) z)
    refine aw_run 2 (F' := (26, [some (.ref r), some (.int (nI k)), some (.ref na), some (.int (nI e)), some (.int (nI dep)), some (.int (nI p)), none, none, none, none, none], [.int (nI 4), .ref r])) rfl ?_
    refine aw_v [.ref r, .int (nI 4)] [] rfl (by decide) rfl a6 rfl rfl (Nat.le_of_ble_eq_true rfl) (Nat.le_of_ble_eq_true rfl) ?_
    refine c_num a1 a6 a7 (by omega) (by omega) ?_
    have hu : sp_le β p 4 < 2 ^ 32 := by
      obtain ⟨-, f, -, hf⟩ := a7
      exact sp_le_lt (β := β) (p := p) (w := 4) (fun i hi => (hf (p + i) (by omega)).1)
    have hat := rdx.at (g := g) (p' := p + 4) a5 a6
    have hn1 : (am_set σ r (.inr (3, [.ref t, .int (nI (p + 4))]))).2.1 = σ.2.1 := rfl
    generalize am_set σ r (.inr (3, [.ref t, .int (nI (p + 4))])) = σ1 at hat hn1 ⊢
    unfold sp_nst at hN hS
    rw [if_neg (by omega)] at hN hS
    generalize hue : sp_le β p 4 = u at hN hS hu ⊢
    refine aw_run 4 (F' := (35, [some (.ref r), some (.int (nI k)), some (.ref na), some (.int (nI e)), some (.int (nI dep)), some (.int (nI p)), some (.int ((lN u).toInt32)), none, none, none, none], [.int (nI 5), .int ((lN u).toInt32)])) rfl ?_
    rw [lN_i]
    have fail2 : (u < 5 ∨ e < p + u) → AW g (d + 5) 11 (47, [some (.ref r), some (.int (nI k)), some (.ref na), some (.int (nI e)), some (.int (nI dep)), some (.int (nI p)), some (.int (nI u)), none, none, none, none], []) σ1 Q := by
      intro z
      rw [if_pos z] at hN
      refine aw_run 1 (F' := (48, [some (.ref r), some (.int (nI k)), some (.ref na), some (.int (nI e)), some (.int (nI dep)), some (.int (nI p)), some (.int (nI u)), none, none, none, none], [.null])) rfl ?_
      exact aw_nret rfl ⟨_, rfl, Or.inl ⟨_, rfl⟩⟩ (hN rfl σ1 (p + 4) (hat.mono (Nat.zero_le _) (Nat.zero_le _)))
    refine aw_clt rfl (fun w => ?_) (fun w => ?_)
    · refine fail2 ?_
      by_cases hbig : 2 ^ 31 ≤ u
      · exact Or.inr (by omega)
      · exact Or.inl ((nI_ltI (by omega) (by omega)).mp w)
    have hbig : ¬ 2 ^ 31 ≤ u := fun z => w (by
      have h5 := nI_neg z hu
      rw [Int32.lt_iff_toInt_lt] at h5 ⊢
      have e5 : (nI 5).toInt = 5 := rfl
      have e0 : (0 : Int32).toInt = 0 := rfl
      omega)
    have w' : ¬ u < 5 := fun z => w ((nI_ltI (by omega) (by omega)).mpr z)
    refine aw_run 4 (F' := (44, [some (.ref r), some (.int (nI k)), some (.ref na), some (.int (nI e)), some (.int (nI dep)), some (.int (nI p)), some (.int (nI u)), none, none, none, none], [.int (nI e - nI p), .int (nI u)])) rfl ?_
    rw [pk_sub hp]
    refine aw_cle rfl (fun v => ?_) (fun v => ?_)
    rotate_left
    · refine fail2 (Or.inr ?_)
      have v' : ¬ u ≤ e - p := fun z => v ((nI_leI (by omega) (by omega)).mpr z)
      omega
    have v' := (nI_leI (by omega) (by omega)).mp v
    rw [if_neg (by omega)] at hN
    simp only [if_neg (show ¬ (u < 5 ∨ e < p + u) by omega)] at hS
    refine aw_run 6 (F' := (58, [some (.ref r), some (.int (nI k)), some (.ref na), some (.int (nI e)), some (.int (nI dep)), some (.int (nI p)), some (.int (nI u)), some (.int (nI p + nI u - nI 1)), none, none, none], [])) rfl ?_
    rw [nI_add, pk_sub (show 1 ≤ p + u by omega)]
    refine aw_new rfl ?_
    have ho1 := ho.go hat
    have hat3 := hat.new (c := .inr (1, am_def 1)) (n := am_nf 1)
    have hc3 := am_psh_same σ1 (.inr (1, am_def 1)) (am_nf 1)
    have hn3 : (am_psh σ1 (.inr (1, am_def 1)) (am_nf 1)).2.1 = σ1.2.1 + 1 := rfl
    generalize am_psh σ1 (.inr (1, am_def 1)) (am_nf 1) = σ3 at hat3 hc3 hn3 ⊢
    have ho3 := ho.go hat3
    have ho3' := ho3
    obtain ⟨e1, e2, e3, e4, e5, e6, e7, e8⟩ := ho3'
    refine aw_run 4 (F' := (65, [some (.ref r), some (.int (nI k)), some (.ref na), some (.int (nI e)), some (.int (nI dep)), some (.int (nI p)), some (.int (nI u)), some (.int (nI (p + u - 1))), none, none, none], [.long 0, .ref na, .int (nI k), .ref σ1.2.1, .ref σ1.2.1])) rfl ?_
    refine aw_sta rfl ?_
    refine aw_i [.ref σ1.2.1, .int (nI k), .ref na, .long 0, .ref g.2] [.ref σ1.2.1] rfl (by decide) rfl rfl rfl (Nat.le_of_ble_eq_true rfl) (Nat.le_of_ble_eq_true rfl) ?_
    refine c_mk1 (by omega) a4 hc3 e8 ?_
    have hat4 := (hat3.setx (c := .inr (1, [.int (nI k), .ref na, .long 0, .ref g.2, .int (nI 0), .null, .null, .null])) (x := σ1.2.1) (by omega) (by omega) hc3).mono (k' := 2 * (p + 4 - p)) (m' := 10 * (p + 4 - p)) (by omega) (by show 0 + 8 ≤ _; omega)
    have hc4 := am_set_same σ3 σ1.2.1 (.inr (1, [.int (nI k), .ref na, .long 0, .ref g.2, .int (nI 0), .null, .null, .null]))
    have hn4 : (am_set σ3 σ1.2.1 (.inr (1, [.int (nI k), .ref na, .long 0, .ref g.2, .int (nI 0), .null, .null, .null]))).2.1 = σ1.2.1 + 1 := hn3
    generalize am_set σ3 σ1.2.1 (.inr (1, [.int (nI k), .ref na, .long 0, .ref g.2, .int (nI 0), .null, .null, .null])) = σ4 at hat4 hc4 hn4 ⊢
    refine aw_run 3 (F' := (76, [some (.ref r), some (.int (nI k)), some (.ref na), some (.int (nI e)), some (.int (nI dep)), some (.int (nI p)), some (.int (nI u)), some (.int (nI (p + u - 1))), some (.ref σ1.2.1), some (.int (nI 0)), none], [])) rfl ?_
    refine hL g (d + 5) σ σ4 Q r na (p + 4) (p + u - 1) dep k σ1.2.1 p (nI e) (nI u) row [] [] none ho (Nat.le_refl _) (by omega) (by omega) (by omega) d1 (by omega) hd hk (by omega) hat4 hc4 (by show _ ≤ _; omega) (fun z σ' p' h => ?_) (fun l' as' o' σ' z hl' h hx hc => ?_)
    · rw [z] at hN
      exact hN rfl σ' p' (h.mono (by omega) (by omega))
    · rw [z] at hN
      simp only [z] at hS
      dsimp only at hN
      have hf := (ho.go h)
      have hf' := hf
      obtain ⟨f1, f2, f3, f4, f5, f6, f7, f8⟩ := hf'
      have hxl := f5 _ _ hx
      refine aw_run 1 (F' := (137, [some (.ref r), some (.int (nI k)), some (.ref na), some (.int (nI e)), some (.int (nI dep)), some (.int (nI p)), some (.int (nI u)), some (.int (nI (p + u - 1))), some (.ref σ1.2.1), some (.int (nI l'.length)), o'], [.ref r])) rfl ?_
      refine aw_get rfl f6 rfl ?_
      refine aw_run 1 (F' := (142, [some (.ref r), some (.int (nI k)), some (.ref na), some (.int (nI e)), some (.int (nI dep)), some (.int (nI p)), some (.int (nI u)), some (.int (nI (p + u - 1))), some (.ref σ1.2.1), some (.int (nI l'.length)), o'], [.int (nI (p + u - 1)), .int (nI (p + u - 1))])) rfl ?_
      refine aw_cne rfl (fun y => absurd rfl y) (fun _ => ?_)
      refine aw_run 1 (F' := (146, [some (.ref r), some (.int (nI k)), some (.ref na), some (.int (nI e)), some (.int (nI dep)), some (.int (nI p)), some (.int (nI u)), some (.int (nI (p + u - 1))), some (.ref σ1.2.1), some (.int (nI l'.length)), o'], [.ref r])) rfl ?_
      refine aw_v [.ref r] [] rfl (by decide) rfl f6 rfl rfl (Nat.le_of_ble_eq_true rfl) (Nat.le_of_ble_eq_true rfl) ?_
      refine c_skip f1 f6 f7 (by omega) (fun y => ?_) (fun y => ?_)
      · simp only [if_pos y] at hS
        refine aw_zeq rfl (fun y => absurd y (by decide)) (fun _ => ?_)
        refine aw_run 2 (F' := (158, [some (.ref r), some (.int (nI k)), some (.ref na), some (.int (nI e)), some (.int (nI dep)), some (.int (nI p)), some (.int (nI u)), some (.int (nI (p + u - 1))), some (.ref σ1.2.1), some (.int (nI l'.length)), o'], [.ref σ1.2.1])) rfl ?_
        have hat5 := rdx.at (g := g) (p' := p + u) f5 f6
        rw [show p + u - 1 + 1 = p + u by omega]
        have hk5 : ∀ a, a ≠ r → (am_set σ' r (.inr (3, [.ref t, .int (nI (p + u))]))).1 a = σ'.1 a := fun a ha => am_set_ne _ _ ha
        have hn5 : (am_set σ' r (.inr (3, [.ref t, .int (nI (p + u))]))).2.1 = σ'.2.1 := rfl
        generalize am_set σ' r (.inr (3, [.ref t, .int (nI (p + u))])) = σ5 at hat5 hk5 hn5 ⊢
        refine aw_aret rfl ⟨_, rfl, Or.inl ⟨_, rfl⟩⟩ (hS (sp_ofL l') (p + u) σ5 σ1.2.1 rfl ((h.trans hat5).mono (by omega) (by omega)) ?_)
        refine nest_elz (na := na) (as := as') ?_ (by omega) ((hk5 _ (by omega)).trans hx) (by omega) (by omega) (hna.kept ?_) (by rcases hz with z | z <;> omega) (f8.kept (hk5 _ (by omega))) ?_
        · subst hk
          unfold kd
          split <;> omega
        · have hnl : na < σ.2.1 := by rcases hz with z | z <;> omega
          have hnr : na ≠ r := by rcases hz with z | z <;> omega
          exact (hk5 _ hnr).trans (h.2.1 na hnl hnr)
        · rw [hn5]
          exact hc.kept (hk5 _ (by omega)) (fun a b1 b2 => hk5 _ (by omega))
      · rw [if_neg y] at hN
        refine aw_zeq rfl (fun _ => ?_) (fun y => absurd rfl y)
        refine aw_run 1 (F' := (158, [some (.ref r), some (.int (nI k)), some (.ref na), some (.int (nI e)), some (.int (nI dep)), some (.int (nI p)), some (.int (nI u)), some (.int (nI (p + u - 1))), some (.ref σ1.2.1), some (.int (nI l'.length)), o'], [.null])) rfl ?_
        exact aw_nret rfl ⟨_, rfl, Or.inl ⟨_, rfl⟩⟩ (hN rfl σ' (p + u - 1) (h.mono (by omega) (by omega)))
  · rw [if_neg (fun z => h1 z.1)]
    refine aw_zne rfl (fun z => absurd rfl z) (fun _ => ?_)
    exact fail (by unfold sp_nst; rw [if_pos (Or.inr (by omega))])
theorem NL_all {β : Nat → Nat} {N t : Nat} (hD : decOK) (hN2 : N ≤ 2000) : ∀ n, NL β N t n
  | 0 => NL_0 β N t
  | n + 1 => NL_S hD hN2 (RN_of hN2 (NL_all hD hN2 n)) (NL_all hD hN2 n)
theorem RN_all {β : Nat → Nat} {N t : Nat} (hD : decOK) (hN2 : N ≤ 2000) (n : Nat) : RN β N t n := RN_of hN2 (NL_all hD hN2 n)
end
section
/-- the document that the first e bytes are, if they are one -/
def sp_doc (β : Nat → Nat) (e : Nat) : Option sp_F := match sp_nst (sp_es β 2000) β 1 false 0 e with
  | none => none
  | some (c, q) => if q = e then some c else none
section P38
variable {g : Nat × Nat} {d : Nat} {σ : am_H} {Q : Option Value → am_H → Prop}
/-- Reader.wholeDocument -/
theorem c_whd (hD : decOK) {β : Nat → Nat} {N t r p e : Nat} (hN2 : N ≤ 2000) (ho : rok g σ r t N p β) (he : e ≤ N) (hN : sp_doc β e = none → ∀ (σ' : am_H) (p' : Nat), rdx g r t σ σ' p' (2 * e) (10 * e) → Q (some .null) σ') (hS : ∀ (c : sp_F) (σ' : am_H) (x : Nat), sp_doc β e = some c → rdx g r t σ σ' e (2 * e) (10 * e) → elz g σ'.1 σ.2.1 σ'.2.1 x ((3, [], 0, []), c) none → Q (some (.ref x)) σ') : AW g (d + 39) 10 (0, [some (.ref r), some (.int (nI e)), none], []) σ Q := by
  have ho' := ho
  obtain ⟨a1, a2, a3, a4, a5, a6, a7, a8⟩ := ho'
  have hrl := a5 _ _ a6
  refine aw_run 2 (F' := (2, [some (.ref r), some (.int (nI e)), none], [.int (nI 0), .ref r])) rfl ?_
  refine aw_put rfl a1 a6 (Nat.le_of_ble_eq_true rfl) rfl rfl ?_
  have hat := rdx.at (g := g) (p' := 0) a5 a6
  have hn1 : (am_set σ r (.inr (3, [.ref t, .int (nI 0)]))).2.1 = σ.2.1 := rfl
  show AW g (d + 39) 10 (2 + 3, [some (.ref r), some (.int (nI e)), none], []) (am_set σ r (.inr (3, [.ref t, .int (nI 0)]))) Q
  generalize am_set σ r (.inr (3, [.ref t, .int (nI 0)])) = σ1 at hat hn1 ⊢
  have ho1 := ho.go hat
  have ho1' := ho1
  obtain ⟨b1, b2, b3, b4, b5, b6, b7, b8⟩ := ho1'
  refine aw_run 2 (F' := (7, [some (.ref r), some (.int (nI e)), none], [.int (nI 3), .ref r])) rfl ?_
  refine aw_sta rfl ?_
  refine aw_run 2 (F' := (12, [some (.ref r), some (.int (nI e)), none], [.int (nI 1), .int (nI e), .ref g.2, .int (nI 3), .ref r])) rfl ?_
  refine aw_v [.ref r, .int (nI 3), .ref g.2, .int (nI e), .int (nI 1)] [] rfl (by decide) rfl b6 rfl rfl (Nat.le_of_ble_eq_true rfl) (Nat.le_of_ble_eq_true rfl) ?_
  refine RN_all hD hN2 2000 g (d + 38) σ1 _ r g.2 0 e 1 σ1.2.1 3 false [] ho1 (by omega) he (by omega) b8 (Or.inr rfl) (Nat.le_refl _) (by omega) (by omega) (by omega) (by omega) (by omega) rfl (fun z σ' p' h => ?_) (fun c q σ' x z h hel => ?_)
  · have hz : sp_doc β e = none := by unfold sp_doc; rw [z]
    have htot := (hat.trans h).mono (k' := 2 * e) (m' := 10 * e) (by omega) (by omega)
    refine aw_run 2 (F' := (17, [some (.ref r), some (.int (nI e)), some .null], [.ref r])) rfl ?_
    refine aw_get rfl h.1 rfl ?_
    refine aw_run 1 (F' := (21, [some (.ref r), some (.int (nI e)), some .null], [.int (nI e), .int (nI p')])) rfl ?_
    refine aw_cne rfl (fun _ => ?_) (fun _ => ?_)
    · refine aw_run 1 (F' := (29, [some (.ref r), some (.int (nI e)), some .null], [.null])) rfl ?_
      exact aw_nret rfl ⟨_, rfl, Or.inl ⟨_, rfl⟩⟩ (hN hz σ' p' htot)
    · refine aw_run 2 (F' := (29, [some (.ref r), some (.int (nI e)), some .null], [.null])) rfl ?_
      exact aw_nret rfl ⟨_, rfl, Or.inl ⟨_, rfl⟩⟩ (hN hz σ' p' htot)
  · have hq := sp_nst_le z
    have htot := (hat.trans h).mono (k' := 2 * e) (m' := 10 * e) (by omega) (by omega)
    refine aw_run 2 (F' := (17, [some (.ref r), some (.int (nI e)), some (.ref x)], [.ref r])) rfl ?_
    refine aw_get rfl h.1 rfl ?_
    refine aw_run 1 (F' := (21, [some (.ref r), some (.int (nI e)), some (.ref x)], [.int (nI e), .int (nI q)])) rfl ?_
    refine aw_cne rfl (fun w => ?_) (fun w => ?_)
    · refine aw_run 1 (F' := (29, [some (.ref r), some (.int (nI e)), some (.ref x)], [.null])) rfl ?_
      have hz : sp_doc β e = none := by
        unfold sp_doc
        rw [z]
        exact if_neg (fun y => w (by rw [y]))
      exact aw_nret rfl ⟨_, rfl, Or.inl ⟨_, rfl⟩⟩ (hN hz σ' q htot)
    · have w' : q = e := (nI_eq (by omega) (by omega)).mp (Decidable.of_not_not w)
      subst w'
      have hz : sp_doc β q = some c := by
        unfold sp_doc
        rw [z]
        exact if_pos rfl
      refine aw_run 2 (F' := (29, [some (.ref r), some (.int (nI q)), some (.ref x)], [.ref x])) rfl ?_
      rw [hn1] at hel
      exact aw_aret rfl ⟨_, rfl, Or.inl ⟨_, rfl⟩⟩ (hS c σ' x hz htot hel)
/-- Reader's constructor -/
theorem c_rnew {r t : Nat} {w0 w1 : Value} (hg : g.1 ≤ r) (hr : σ.1 r = some (.inr (3, [w0, w1]))) (hQ : Q none (am_set σ r (.inr (3, [.ref t, w1])))) : AW g (d + 1) 9 (0, [some (.ref r), some (.ref t)], []) σ Q := by
  refine aw_run 1 (F' := (1, [some (.ref r), some (.ref t)], [.ref r])) rfl ?_
  refine aw_obj rfl (Nat.le_of_ble_eq_true rfl) (by omega) ?_
  refine aw_run 2 (F' := (6, [some (.ref r), some (.ref t)], [.ref t, .ref r])) rfl ?_
  refine aw_put rfl hg hr (Nat.le_of_ble_eq_true rfl) rfl rfl ?_
  exact aw_vret rfl rfl hQ
end P38
end
section
/-! lists of values -/
abbrev sp_X := List (sp_V × Nat)
def sp_miss : sp_V := ((0, [], 0, []), .leaf)
def sp_add (S : sp_X × Bool) (v : sp_V) : sp_X × Bool := if S.1.length < 500 then (S.1 ++ [(v, S.1.length)], S.2) else (S.1, true)
def sp_adds : sp_X × Bool → List sp_V → sp_X × Bool
  | S, [] => S
  | S, v :: L => if S.2 = true then S else sp_adds (sp_add S v) L
theorem sp_adds_ov {S : sp_X × Bool} (h : S.2 = true) : ∀ L, sp_adds S L = S
  | [] => rfl
  | _ :: _ => if_pos h
theorem sp_adds_cons {S : sp_X × Bool} {v : sp_V} {L : List sp_V} (h : ¬ S.2 = true) : sp_adds S (v :: L) = sp_adds (sp_add S v) L := if_neg h
theorem sp_adds_app : ∀ (L L' : List sp_V) (S : sp_X × Bool), sp_adds S (L ++ L') = sp_adds (sp_adds S L) L'
  | [], _, _ => rfl
  | v :: L, L', S => by
    by_cases h : S.2 = true
    · rw [sp_adds_ov h, sp_adds_ov h, sp_adds_ov h]
    · rw [List.cons_append, sp_adds_cons h, sp_adds_cons h, sp_adds_app L L']
theorem sp_adds_one {S : sp_X × Bool} {v : sp_V} (h : ¬ S.2 = true) : sp_adds S [v] = sp_add S v := by rw [sp_adds_cons h]; rfl
theorem sp_adds_all : ∀ (L : List sp_V) (X : sp_X), X.length ≤ 500 → (X.length + L.length ≤ 500 → sp_adds (X, false) L = (X ++ L.zipIdx X.length, false)) ∧ (500 < X.length + L.length → (sp_adds (X, false) L).2 = true)
  | [], X, h => ⟨fun _ => by simp [sp_adds], fun q => by simp at q; omega⟩
  | v :: L, X, h => by
    rw [sp_adds_cons (by simp)]
    unfold sp_add
    dsimp only
    by_cases q : X.length < 500
    · rw [if_pos q]
      have ih := sp_adds_all L (X ++ [(v, X.length)]) (by simp; omega)
      simp only [List.length_append, List.length_cons, List.length_nil] at ih
      refine ⟨fun z => ?_, fun z => ih.2 (by simp at z; omega)⟩
      rw [ih.1 (by simp at z; omega)]
      simp [List.zipIdx_cons]
    · rw [if_neg q]
      refine ⟨fun z => by simp at z; omega, fun z => ?_⟩
      rw [sp_adds_ov rfl]
def bI (b : Bool) : Int32 := if b = true then 1 else 0
/-- a list in the heap h, its values in the heap h0 -/
def ls (Z : Nat → Prop) (h0 h : Nat → Option am_C) (w va oa sa pa : Nat) (S : sp_X × Bool) : Prop := S.1.length ≤ 500 ∧ ∃ (fv : Nat → Option Nat) (fo : Nat → Int32), h w = some (.inr (2, [.ref va, .ref oa, .ref sa, .ref pa, .int (nI S.1.length), .int (bI S.2)])) ∧ h va = some (.inl (3, 500, .inr (.inr (.inr (.inr fv))))) ∧ h oa = some (.inl (0, 500, .inl fo)) ∧ ∀ i v o, S.1[i]? = some (v, o) → ∃ a, fv i = some a ∧ vlz Z h0 a v ∧ fo i = nI o
/-- what is changed when a list is filled -/
def fil (σ0 σ : am_H) (w va oa : Nat) : Prop := (∀ a, a ≠ w → a ≠ va → a ≠ oa → σ.1 a = σ0.1 a) ∧ σ.2 = σ0.2
def fwk (g : Nat × Nat) (Z : Nat → Prop) (w va oa : Nat) : Prop := g.1 ≤ w ∧ g.1 ≤ va ∧ g.1 ≤ oa ∧ w ≠ va ∧ w ≠ oa ∧ va ≠ oa ∧ ¬ Z w ∧ ¬ Z va ∧ ¬ Z oa
theorem fil.set {σ0 σ : am_H} {w va oa a : Nat} {c : am_C} (h : fil σ0 σ w va oa) (ha : a = w ∨ a = va ∨ a = oa) : fil σ0 (am_set σ a c) w va oa :=
  ⟨fun b h1 h2 h3 => by
    have hne : b ≠ a := by rcases ha with q | q | q <;> rw [q] <;> assumption
    rw [am_set_ne _ _ hne]
    exact h.1 b h1 h2 h3, h.2⟩
theorem fil.z {g : Nat × Nat} {Z : Nat → Prop} {σ0 σ : am_H} {w va oa : Nat} (h : fil σ0 σ w va oa) (hf : fwk g Z w va oa) : ∀ a, Z a → σ.1 a = σ0.1 a := by
  obtain ⟨-, -, -, -, -, -, z1, z2, z3⟩ := hf
  exact fun a ha => h.1 a (fun q => z1 (q ▸ ha)) (fun q => z2 (q ▸ ha)) (fun q => z3 (q ▸ ha))
theorem vlz.cell {Z : Nat → Prop} {h : Nat → Option am_C} {a : Nat} {v : sp_V} (q : vlz Z h a v) : ∃ w0 w1 w2 w3 w4 w5 w6 w7, h a = some (.inr (1, [w0, w1, w2, w3, w4, w5, w6, w7])) := by
  obtain ⟨-, fi, la, nx, ⟨-, -, na, ba, num, -, -, h3, -⟩, -⟩ := q
  exact ⟨_, _, _, _, _, _, _, _, h3⟩
section P39
variable {g : Nat × Nat} {d : Nat} {σ : am_H} {Q : Option Value → am_H → Prop}
/-- ValueList.add -/
theorem c_add {Z : Nat → Prop} {σ0 : am_H} {w va oa sa pa x : Nat} {v : sp_V} {S : sp_X × Bool} (hf : fwk g Z w va oa) (hfil : fil σ0 σ w va oa) (hls : ls Z σ0.1 σ.1 w va oa sa pa S) (hx : vlz Z σ0.1 x v) (hQ : ∀ σ' : am_H, fil σ0 σ' w va oa → ls Z σ0.1 σ'.1 w va oa sa pa (sp_add S v) → Q none σ') : AW g d 42 (0, [some (.ref w), some (.ref x)], []) σ Q := by
  have hZ := hfil.z hf
  obtain ⟨g1, g2, g3, n1, n2, n3, z1, z2, z3⟩ := hf
  obtain ⟨hl, fv, fo, hw, hva, hoa, hv⟩ := hls
  obtain ⟨w0, w1, w2, w3, w4, w5, w6, w7, hxc⟩ := (hx.kept hZ (fun _ z => z)).cell
  have hxz := hx.1
  have hxa : x ≠ va := fun q => z2 (q ▸ hxz)
  have hxw : x ≠ w := fun q => z1 (q ▸ hxz)
  refine aw_run 1 (F' := (1, [some (.ref w), some (.ref x)], [.ref w])) rfl ?_
  refine aw_get rfl hw rfl ?_
  refine aw_run 1 (F' := (5, [some (.ref w), some (.ref x)], [.ref w, .int (nI S.1.length)])) rfl ?_
  refine aw_get rfl hw rfl ?_
  refine aw_lenq rfl hva (by decide) ?_
  refine aw_clt rfl (fun q => ?_) (fun q => ?_)
  · have q' := (nI_ltI (a := S.1.length) (b := 500) (by omega) (by omega)).mp q
    unfold sp_add at hQ
    rw [if_pos q'] at hQ
    refine aw_run 1 (F' := (19, [some (.ref w), some (.ref x)], [.ref w])) rfl ?_
    refine aw_get rfl hw rfl ?_
    refine aw_run 1 (F' := (23, [some (.ref w), some (.ref x)], [.ref w, .ref va])) rfl ?_
    refine aw_get rfl hw rfl ?_
    refine aw_run 1 (F' := (27, [some (.ref w), some (.ref x)], [.ref x, .int (nI S.1.length), .ref va])) rfl ?_
    refine aw_aast rfl g2 hva rfl hxc (vp_in_nI q' (by omega)) ?_
    rw [nI_clamp (by omega)]
    have hw1 := (am_set_ne σ (.inl (3, 500, .inr (.inr (.inr (.inr (va_up fv S.1.length (some x))))))) n1).trans hw
    have hoa1 := (am_set_ne σ (.inl (3, 500, .inr (.inr (.inr (.inr (va_up fv S.1.length (some x))))))) (Ne.symm n3)).trans hoa
    refine aw_run 1 (F' := (29, [some (.ref w), some (.ref x)], [.ref w])) rfl ?_
    refine aw_get rfl hw1 rfl ?_
    refine aw_run 1 (F' := (33, [some (.ref w), some (.ref x)], [.ref w, .ref oa])) rfl ?_
    refine aw_get rfl hw1 rfl ?_
    refine aw_run 1 (F' := (37, [some (.ref w), some (.ref x)], [.ref w, .int (nI S.1.length), .ref oa])) rfl ?_
    refine aw_get rfl hw1 rfl ?_
    refine aw_iast rfl g3 hoa1 (vp_in_nI q' (by omega)) ?_
    rw [nI_clamp (by omega)]
    have hw2 := (am_set_ne (am_set σ va (.inl (3, 500, .inr (.inr (.inr (.inr (va_up fv S.1.length (some x)))))))) (.inl (0, 500, .inl (upd fo S.1.length (nI S.1.length)))) n2).trans hw1
    refine aw_run 2 (F' := (43, [some (.ref w), some (.ref x)], [.ref w, .ref w])) rfl ?_
    refine aw_get rfl hw2 rfl ?_
    refine aw_run 2 (F' := (48, [some (.ref w), some (.ref x)], [.int (nI S.1.length + 1), .ref w])) rfl ?_
    rw [nI_1]
    refine aw_put rfl g1 hw2 (Nat.le_of_ble_eq_true rfl) rfl rfl ?_
    refine aw_vret rfl rfl (hQ _ (((hfil.set (Or.inr (Or.inl rfl))).set (Or.inr (Or.inr rfl))).set (Or.inl rfl)) ⟨by simp; omega, _, _, (am_set_same _ _ _).trans ?_, (am_set_ne _ _ (Ne.symm n1)).trans ((am_set_ne _ _ n3).trans (am_set_same _ _ _)), (am_set_ne _ _ (Ne.symm n2)).trans (am_set_same _ _ _), fun i v' o hi => ?_⟩)
    · simp
    · dsimp only at hi
      rw [List.getElem?_append] at hi
      by_cases hil : i < S.1.length
      · rw [if_pos hil] at hi
        obtain ⟨a, e1, e2, e3⟩ := hv i v' o hi
        refine ⟨a, ?_, e2, ?_⟩
        · show (if i = S.1.length then _ else _) = _
          rw [if_neg (by omega)]
          exact e1
        · rw [pk_un (by omega)]
          exact e3
      · rw [if_neg hil] at hi
        have hi0 : i - S.1.length = 0 := by
          cases hk : i - S.1.length with
          | zero => rfl
          | succ k => rw [hk] at hi; simp at hi
        rw [hi0] at hi
        simp at hi
        obtain ⟨rfl, rfl⟩ := hi
        have hie : i = S.1.length := by omega
        subst hie
        refine ⟨x, ?_, hx, ?_⟩
        · show (if S.1.length = S.1.length then _ else _) = _
          rw [if_pos rfl]
        · rw [pk_us]
  · have q' : ¬ S.1.length < 500 := fun z => q ((nI_ltI (a := S.1.length) (b := 500) (by omega) (by omega)).mpr z)
    unfold sp_add at hQ
    rw [if_neg q'] at hQ
    refine aw_run 2 (F' := (14, [some (.ref w), some (.ref x)], [.int 1, .ref w])) rfl ?_
    refine aw_put rfl g1 hw (Nat.le_of_ble_eq_true rfl) rfl rfl ?_
    refine aw_vret rfl rfl (hQ _ (hfil.set (Or.inl rfl)) ⟨hl, fv, fo, (am_set_same _ _ _).trans rfl, (am_set_ne _ _ (Ne.symm n1)).trans hva, (am_set_ne _ _ (Ne.symm n2)).trans hoa, hv⟩)
/-- ValueList.clear -/
theorem c_clr {Z : Nat → Prop} {σ0 : am_H} {w va oa sa pa : Nat} {S : sp_X × Bool} (hf : fwk g Z w va oa) (hfil : fil σ0 σ w va oa) (hls : ls Z σ0.1 σ.1 w va oa sa pa S) (hQ : ∀ σ' : am_H, fil σ0 σ' w va oa → ls Z σ0.1 σ'.1 w va oa sa pa ([], false) → Q none σ') : AW g d 38 (0, [some (.ref w)], []) σ Q := by
  obtain ⟨g1, g2, g3, n1, n2, n3, z1, z2, z3⟩ := hf
  obtain ⟨hl, fv, fo, hw, hva, hoa, hv⟩ := hls
  refine aw_run 2 (F' := (2, [some (.ref w)], [.int (nI 0), .ref w])) rfl ?_
  refine aw_put rfl g1 hw (Nat.le_of_ble_eq_true rfl) rfl rfl ?_
  refine aw_run 2 (F' := (7, [some (.ref w)], [.int 0, .ref w])) rfl ?_
  refine aw_put rfl g1 (am_set_same _ _ _) (Nat.le_of_ble_eq_true rfl) rfl rfl ?_
  rw [am_set_set]
  refine aw_vret rfl rfl (hQ _ (hfil.set (Or.inl rfl)) ⟨by simp, fv, fo, (am_set_same _ _ _).trans rfl, (am_set_ne _ _ (Ne.symm n1)).trans hva, (am_set_ne _ _ (Ne.symm n2)).trans hoa, fun i v o hi => by simp at hi⟩)
end P39
end
section
/-! the leaves of a path -/
def sp_its (v : sp_V) (it : Bool) : List sp_V := if it = true ∧ v.1.1 = 4 then sp_toL v.2 else []
def sp_lv (it : Bool) : Nat → sp_V → List (List Nat) → List sp_V
  | 0, _, _ => []
  | _ + 1, v, [] => v :: sp_its v it
  | n + 1, v, s :: ss => if v.1.1 = 4 then (match sp_fnd s v.2 with
      | none => []
      | some w => sp_lv it n w ss) ++ (sp_toL v.2).flatMap (fun w => if w.1.1 = 3 then sp_lv it n w (s :: ss) else [])
    else match sp_fnd s v.2 with
      | none => [sp_miss]
      | some w => sp_lv it n w ss
/-- the steps of a path, in the heap -/
def stc (Z : Nat → Prop) (h : Nat → Option am_C) : List (List Nat) → Option Nat → Prop
  | [], o => o = none
  | nm :: P, o => ∃ (a na : Nat) (nx : Option Nat), o = some a ∧ Z a ∧ Z na ∧ h a = some (.inr (5, [.ref na, va_rf nx, .int (nI (P.length + 1))])) ∧ bya h na nm ∧ stc Z h P nx
theorem stc.kept {Z Z' : Nat → Prop} {h h' : Nat → Option am_C} (e : ∀ x, Z x → h' x = h x) (hZ : ∀ x, Z x → Z' x) : ∀ {P : List (List Nat)} {o : Option Nat}, stc Z h P o → stc Z' h' P o
  | [], _, q => q
  | _ :: _, _, ⟨a, na, nx, h1, z1, z2, h2, h3, h4⟩ => ⟨a, na, nx, h1, hZ _ z1, hZ _ z2, (e _ z1).trans h2, h3.kept (e _ z2), stc.kept e hZ h4⟩
/-- what a walk stands on -/
def wlk (g : Nat × Nat) (Z : Nat → Prop) (σ0 : am_H) (k w va oa m : Nat) (it : Bool) : Prop := fwk g Z w va oa ∧ k ≠ w ∧ k ≠ va ∧ k ≠ oa ∧ σ0.1 k = some (.inr (4, [.ref w, .int (bI it), .ref m])) ∧ vlz Z σ0.1 m sp_miss
section P40
variable {g : Nat × Nat} {d : Nat} {σ : am_H} {Q : Option Value → am_H → Prop}
theorem frz.one {Z : Nat → Prop} {h : Nat → Option am_C} {s : Nat} {b : sp_B} {u : Unit} {c r : sp_F} {o : Option Nat} (q : frz Z h (.inner s b u c r) o) : ∃ x, o = some x ∧ vlz Z h x (b, c) ∧ ∃ w0 w1 w2 w3 w4 w5 w6 nx, h x = some (.inr (1, [.int w0, w1, w2, w3, w4, w5, w6, va_rf nx])) ∧ w0 = nI b.1 ∧ frz Z h r nx := by
  obtain ⟨a, fi, la, nx, h1, z, h2, h3, h4⟩ := q
  have h2' := h2
  obtain ⟨-, -, na, ba, num, -, -, hc, -⟩ := h2'
  exact ⟨a, h1, ⟨z, fi, la, nx, h2, h3⟩, _, _, _, _, _, _, _, nx, hc, rfl, h4⟩
/-- addLeaf's loop -/
theorem c_leafL {Z : Nat → Prop} {σ0 : am_H} {k w va oa sa pa m x : Nat} {it : Bool} (hw : wlk g Z σ0 k w va oa m it) : ∀ (c : sp_F) (o : Option Nat) (σ : am_H) (S : sp_X × Bool), frz Z σ0.1 c o → fil σ0 σ w va oa → ls Z σ0.1 σ.1 w va oa sa pa S → (∀ σ' : am_H, fil σ0 σ' w va oa → ls Z σ0.1 σ'.1 w va oa sa pa (sp_adds S (sp_toL c)) → Q none σ') → AW g (d + 1) 41 (29, [some (.ref k), some (.ref x), some (va_rf o)], []) σ Q := by
  intro c
  induction c with
  | leaf =>
    intro o σ S hc hfil hls hQ
    have ho : o = none := hc
    subst ho
    refine aw_run 1 (F' := (30, [some (.ref k), some (.ref x), some .null], [.null])) rfl ?_
    refine aw_ifnull_n rfl ?_
    exact aw_vret rfl rfl (hQ σ hfil hls)
  | inner s b u c r ihc ihr =>
    intro o σ S hc hfil hls hQ
    obtain ⟨hf, k1, k2, k3, hk, hm⟩ := hw
    have hZ := hfil.z hf
    have hkc := (hfil.1 k k1 k2 k3).trans hk
    obtain ⟨y, rfl, hy, w0, w1, w2, w3, w4, w5, w6, nx, hyc, -, hr⟩ := hc.one
    refine aw_run 1 (F' := (30, [some (.ref k), some (.ref x), some (.ref y)], [.ref y])) rfl ?_
    refine aw_ifnull_r rfl ?_
    refine aw_run 1 (F' := (34, [some (.ref k), some (.ref x), some (.ref y)], [.ref k])) rfl ?_
    refine aw_get rfl hkc rfl ?_
    have hls' := hls
    obtain ⟨hl, fv, fo, hwc, hva, hoa, hv⟩ := hls'
    refine aw_get rfl hwc rfl ?_
    by_cases hov : S.2 = true
    · rw [hov]
      refine aw_zne rfl (fun _ => ?_) (fun z => absurd (by decide) z)
      rw [sp_adds_ov hov] at hQ
      exact aw_vret rfl rfl (hQ σ hfil hls)
    · have hof : S.2 = false := by simpa using hov
      rw [hof]
      refine aw_zne rfl (fun z => absurd rfl z) (fun _ => ?_)
      refine aw_run 1 (F' := (44, [some (.ref k), some (.ref x), some (.ref y)], [.ref k])) rfl ?_
      refine aw_get rfl hkc rfl ?_
      refine aw_run 1 (F' := (48, [some (.ref k), some (.ref x), some (.ref y)], [.ref y, .ref w])) rfl ?_
      refine aw_v [.ref w, .ref y] [] rfl (by decide) rfl hwc rfl rfl (Nat.le_of_ble_eq_true rfl) (Nat.le_of_ble_eq_true rfl) ?_
      refine c_add hf hfil hls hy (fun σ' hfil' hls' => ?_)
      have hyc' := (hfil'.z hf y hy.1).trans hyc
      refine aw_run 1 (F' := (52, [some (.ref k), some (.ref x), some (.ref y)], [.ref y])) rfl ?_
      refine aw_get rfl hyc' rfl ?_
      have key := ihr nx σ' (sp_add S (b, c)) hr hfil' hls' (by
        intro σ'' h1 h2
        refine hQ σ'' h1 ?_
        show ls Z σ0.1 σ''.1 w va oa sa pa (sp_adds S ((b, c) :: sp_toL r))
        rw [sp_adds_cons hov]
        exact h2)
      rcases nx with _ | z
      · refine aw_run 2 (F' := (29, [some (.ref k), some (.ref x), some .null], [])) rfl ?_
        exact key
      · refine aw_run 2 (F' := (29, [some (.ref k), some (.ref x), some (.ref z)], [])) rfl ?_
        exact key
/-- Walk.addLeaf -/
theorem c_leaf {Z : Nat → Prop} {σ0 : am_H} {k w va oa sa pa m x : Nat} {it : Bool} {v : sp_V} {S : sp_X × Bool} (hw : wlk g Z σ0 k w va oa m it) (hx : vlz Z σ0.1 x v) (hfil : fil σ0 σ w va oa) (hls : ls Z σ0.1 σ.1 w va oa sa pa S) (hov : ¬ S.2 = true) (hQ : ∀ σ' : am_H, fil σ0 σ' w va oa → ls Z σ0.1 σ'.1 w va oa sa pa (sp_adds S (v :: sp_its v it)) → Q none σ') : AW g (d + 1) 41 (0, [some (.ref k), some (.ref x), none], []) σ Q := by
  have hw' := hw
  obtain ⟨hf, k1, k2, k3, hk, hm⟩ := hw'
  have hkc := (hfil.1 k k1 k2 k3).trans hk
  have hls' := hls
  obtain ⟨hl, fv, fo, hwc, hva, hoa, hv⟩ := hls'
  refine aw_run 1 (F' := (1, [some (.ref k), some (.ref x), none], [.ref k])) rfl ?_
  refine aw_get rfl hkc rfl ?_
  refine aw_run 1 (F' := (5, [some (.ref k), some (.ref x), none], [.ref x, .ref w])) rfl ?_
  refine aw_v [.ref w, .ref x] [] rfl (by decide) rfl hwc rfl rfl (Nat.le_of_ble_eq_true rfl) (Nat.le_of_ble_eq_true rfl) ?_
  refine c_add hf hfil hls hx (fun σ' hfil' hls' => ?_)
  have hkc' := (hfil'.1 k k1 k2 k3).trans hk
  refine aw_run 1 (F' := (9, [some (.ref k), some (.ref x), none], [.ref k])) rfl ?_
  refine aw_get rfl hkc' rfl ?_
  rw [sp_adds_cons hov] at hQ
  unfold sp_its at hQ
  by_cases hit : it = true
  · rw [hit]
    refine aw_zeq rfl (fun z => absurd z (by decide)) (fun _ => ?_)
    have hx' := hx.kept (hfil'.z hf) (fun _ z => z)
    obtain ⟨zx0, fi, la, nx, ⟨kk, -, na, ba, num, -, -, hxc, -⟩, hfr⟩ := hx
    have hxc' := (hfil'.z hf x zx0).trans hxc
    refine aw_run 1 (F' := (16, [some (.ref k), some (.ref x), none], [.ref x])) rfl ?_
    refine aw_get rfl hxc' rfl ?_
    refine aw_run 1 (F' := (20, [some (.ref k), some (.ref x), none], [.int (nI 4), .int (nI v.1.1)])) rfl ?_
    have hk18 : v.1.1 < 19 := by unfold kd at kk; omega
    refine aw_ceq rfl (fun z => ?_) (fun z => ?_)
    · have z' : v.1.1 = 4 := (nI_eq (by omega) (by omega)).mp z
      rw [if_pos ⟨hit, z'⟩] at hQ
      refine aw_run 1 (F' := (25, [some (.ref k), some (.ref x), none], [.ref x])) rfl ?_
      refine aw_get rfl hxc' rfl ?_
      have key := c_leafL (g := g) (d := d) (Q := Q) (x := x) hw v.2 fi σ' (sp_add S v) hfr hfil' hls' hQ
      rcases fi with _ | z
      · refine aw_run 1 (F' := (29, [some (.ref k), some (.ref x), some .null], [])) rfl ?_
        exact key
      · refine aw_run 1 (F' := (29, [some (.ref k), some (.ref x), some (.ref z)], [])) rfl ?_
        exact key
    · have z' : ¬ v.1.1 = 4 := fun y => z (by rw [y])
      rw [if_neg (fun y => z' y.2)] at hQ
      exact aw_vret rfl rfl (hQ σ' hfil' hls')
  · have hif : it = false := by simpa using hit
    rw [hif]
    refine aw_zeq rfl (fun _ => ?_) (fun z => absurd rfl z)
    rw [if_neg (fun y => hit y.1)] at hQ
    exact aw_vret rfl rfl (hQ σ' hfil' hls')
end P40
end
section
/-- what follow does, n levels being left -/
def FW (n : Nat) : Prop := ∀ (g : Nat × Nat) (d : Nat) (Z : Nat → Prop) (σ0 σ : am_H) (Q : Option Value → am_H → Prop) (k w va oa sa pa m x dep : Nat) (it : Bool) (v : sp_V) (P : List (List Nat)) (o : Option Nat) (S : sp_X × Bool), wlk g Z σ0 k w va oa m it → vlz Z σ0.1 x v → stc Z σ0.1 P o → fil σ0 σ w va oa → ls Z σ0.1 σ.1 w va oa sa pa S → dep + n = 18 → 2 * n + 3 ≤ d → (∀ σ' : am_H, fil σ0 σ' w va oa → ls Z σ0.1 σ'.1 w va oa sa pa (sp_adds S (sp_lv it n v P)) → Q none σ') → AW g d 40 (0, [some (.ref k), some (.ref x), some (va_rf o), some (.int (nI dep))], []) σ Q
section P41
variable {g : Nat × Nat} {d : Nat} {σ : am_H} {Q : Option Value → am_H → Prop}
/-- followInRow's loop -/
theorem c_rowL {n : Nat} (hF : FW n) {Z : Nat → Prop} {σ0 : am_H} {k w va oa sa pa m x a dep : Nat} {it : Bool} {s : List Nat} {ss : List (List Nat)} {e0 : Option Nat} (hw : wlk g Z σ0 k w va oa m it) (hst : stc Z σ0.1 (s :: ss) (some a)) (hdep : dep + (n + 1) = 18) (hd : 2 * n + 3 ≤ d) : ∀ (c : sp_F) (o : Option Nat) (σ : am_H) (S : sp_X × Bool), frz Z σ0.1 c o → fil σ0 σ w va oa → ls Z σ0.1 σ.1 w va oa sa pa S → (∀ σ' : am_H, fil σ0 σ' w va oa → ls Z σ0.1 σ'.1 w va oa sa pa (sp_adds S ((sp_toL c).flatMap (fun w => if w.1.1 = 3 then sp_lv it n w (s :: ss) else []))) → Q none σ') → AW g (d + 1) 43 (34, [some (.ref k), some (.ref x), some (.ref a), some (.int (nI dep)), some (va_rf e0), some (va_rf o)], []) σ Q := by
  intro c
  induction c with
  | leaf =>
    intro o σ S hc hfil hls hQ
    have ho : o = none := hc
    subst ho
    refine aw_run 1 (F' := (36, [some (.ref k), some (.ref x), some (.ref a), some (.int (nI dep)), some (va_rf e0), some .null], [.null])) rfl ?_
    refine aw_ifnull_n rfl ?_
    exact aw_vret rfl rfl (hQ σ hfil hls)
  | inner s1 b u c r ihc ihr =>
    intro o σ S hc hfil hls hQ
    have hw' := hw
    obtain ⟨hf, k1, k2, k3, hk, hm⟩ := hw'
    have hkc := (hfil.1 k k1 k2 k3).trans hk
    obtain ⟨y, rfl, hy, w0, w1, w2, w3, w4, w5, w6, nx, hyc, hw0, hr⟩ := hc.one
    have hkd : b.1 < 19 := by
      obtain ⟨-, fi, la, nx', ⟨kk, -⟩, -⟩ := hy
      unfold kd at kk
      dsimp only at kk
      omega
    subst hw0
    have hyc1 := (hfil.z hf y hy.1).trans hyc
    refine aw_run 1 (F' := (36, [some (.ref k), some (.ref x), some (.ref a), some (.int (nI dep)), some (va_rf e0), some (.ref y)], [.ref y])) rfl ?_
    refine aw_ifnull_r rfl ?_
    refine aw_run 1 (F' := (40, [some (.ref k), some (.ref x), some (.ref a), some (.int (nI dep)), some (va_rf e0), some (.ref y)], [.ref k])) rfl ?_
    refine aw_get rfl hkc rfl ?_
    have hls' := hls
    obtain ⟨hl, fv, fo, hwc, hva, hoa, hv⟩ := hls'
    refine aw_get rfl hwc rfl ?_
    have hflat : (sp_toL (.inner s1 b u c r)).flatMap (fun w => if w.1.1 = 3 then sp_lv it n w (s :: ss) else []) = (if b.1 = 3 then sp_lv it n (b, c) (s :: ss) else []) ++ (sp_toL r).flatMap (fun w => if w.1.1 = 3 then sp_lv it n w (s :: ss) else []) := rfl
    rw [hflat] at hQ
    by_cases hov : S.2 = true
    · rw [hov]
      refine aw_zne rfl (fun _ => ?_) (fun z => absurd (by decide) z)
      rw [sp_adds_ov hov] at hQ
      exact aw_vret rfl rfl (hQ σ hfil hls)
    · have hof : S.2 = false := by simpa using hov
      rw [hof]
      refine aw_zne rfl (fun z => absurd rfl z) (fun _ => ?_)
      refine aw_run 1 (F' := (51, [some (.ref k), some (.ref x), some (.ref a), some (.int (nI dep)), some (va_rf e0), some (.ref y)], [.ref y])) rfl ?_
      refine aw_get rfl hyc1 rfl ?_
      refine aw_run 1 (F' := (55, [some (.ref k), some (.ref x), some (.ref a), some (.int (nI dep)), some (va_rf e0), some (.ref y)], [.int (nI 3), .int (nI b.1)])) rfl ?_
      have rest : ∀ (σ' : am_H) (S' : sp_X × Bool), fil σ0 σ' w va oa → ls Z σ0.1 σ'.1 w va oa sa pa S' → sp_adds S ((if b.1 = 3 then sp_lv it n (b, c) (s :: ss) else []) ++ (sp_toL r).flatMap (fun w => if w.1.1 = 3 then sp_lv it n w (s :: ss) else [])) = sp_adds S' ((sp_toL r).flatMap (fun w => if w.1.1 = 3 then sp_lv it n w (s :: ss) else [])) → AW g (d + 1) 43 (68, [some (.ref k), some (.ref x), some (.ref a), some (.int (nI dep)), some (va_rf e0), some (.ref y)], []) σ' Q := by
        intro σ' S' hfil' hls' he
        have hyc' := (hfil'.z hf y hy.1).trans hyc
        refine aw_run 1 (F' := (70, [some (.ref k), some (.ref x), some (.ref a), some (.int (nI dep)), some (va_rf e0), some (.ref y)], [.ref y])) rfl ?_
        refine aw_get rfl hyc' rfl ?_
        rw [he] at hQ
        have key := ihr nx σ' S' hr hfil' hls' hQ
        rcases nx with _ | z <;> rcases e0 with _ | e0
        · refine aw_run 2 (F' := (34, [some (.ref k), some (.ref x), some (.ref a), some (.int (nI dep)), some .null, some .null], [])) rfl ?_
          exact key
        · refine aw_run 2 (F' := (34, [some (.ref k), some (.ref x), some (.ref a), some (.int (nI dep)), some (.ref e0), some .null], [])) rfl ?_
          exact key
        · refine aw_run 2 (F' := (34, [some (.ref k), some (.ref x), some (.ref a), some (.int (nI dep)), some .null, some (.ref z)], [])) rfl ?_
          exact key
        · refine aw_run 2 (F' := (34, [some (.ref k), some (.ref x), some (.ref a), some (.int (nI dep)), some (.ref e0), some (.ref z)], [])) rfl ?_
          exact key
      refine aw_cne rfl (fun z => ?_) (fun z => ?_)
      · have z' : ¬ b.1 = 3 := fun y => z (by rw [y])
        refine rest σ S hfil hls ?_
        rw [if_neg z', List.nil_append]
      · have z' : b.1 = 3 := (nI_eq (by omega) (by omega)).mp (Decidable.of_not_not z)
        refine aw_run 6 (F' := (65, [some (.ref k), some (.ref x), some (.ref a), some (.int (nI dep)), some (va_rf e0), some (.ref y)], [.int (nI dep + 1), .ref a, .ref y, .ref k])) rfl ?_
        rw [nI_1]
        refine aw_v [.ref k, .ref y, .ref a, .int (nI (dep + 1))] [] rfl (by decide) rfl hkc rfl rfl (Nat.le_of_ble_eq_true rfl) (Nat.le_of_ble_eq_true rfl) ?_
        refine hF g d Z σ0 σ _ k w va oa sa pa m y (dep + 1) it (b, c) (s :: ss) (some a) S hw hy hst hfil hls (by omega) hd (fun σ' hfil' hls' => ?_)
        refine rest σ' _ hfil' hls' ?_
        rw [if_pos z', sp_adds_app]
/-- Walk.follow -/
theorem FW_all : ∀ n, FW n := by
  intro n
  induction n with
  | zero =>
    intro g d Z σ0 σ Q k w va oa sa pa m x dep it v P o S hw hx hst hfil hls hdep hd hQ
    have hw' := hw
    obtain ⟨hf, k1, k2, k3, hk, hm⟩ := hw'
    have hkc := (hfil.1 k k1 k2 k3).trans hk
    have hls' := hls
    obtain ⟨hl, fv, fo, hwc, hva, hoa, hv⟩ := hls'
    refine aw_run 1 (F' := (1, [some (.ref k), some (.ref x), some (va_rf o), some (.int (nI dep))], [.ref k])) rfl ?_
    refine aw_get rfl hkc rfl ?_
    refine aw_get rfl hwc rfl ?_
    refine aw_zne rfl (fun _ => aw_vret rfl rfl (hQ σ hfil hls)) (fun _ => ?_)
    refine aw_run 2 (F' := (13, [some (.ref k), some (.ref x), some (va_rf o), some (.int (nI dep))], [.int (nI 17), .int (nI dep)])) rfl ?_
    refine aw_cle rfl (fun z => absurd ((nI_leI (by omega) (by omega)).mp z) (by omega)) (fun _ => ?_)
    exact aw_vret rfl rfl (hQ σ hfil hls)
  | succ n ih =>
    intro g d Z σ0 σ Q k w va oa sa pa m x dep it v P o S hw hx hst hfil hls hdep hd hQ
    obtain ⟨d, rfl⟩ : ∃ d', d = d' + 4 := ⟨d - 4, by omega⟩
    have hw' := hw
    obtain ⟨hf, k1, k2, k3, hk, hm⟩ := hw'
    have hkc := (hfil.1 k k1 k2 k3).trans hk
    have hZ := hfil.z hf
    have hls' := hls
    obtain ⟨hl, fv, fo, hwc, hva, hoa, hv⟩ := hls'
    refine aw_run 1 (F' := (1, [some (.ref k), some (.ref x), some (va_rf o), some (.int (nI dep))], [.ref k])) rfl ?_
    refine aw_get rfl hkc rfl ?_
    refine aw_get rfl hwc rfl ?_
    by_cases hov : S.2 = true
    · rw [hov]
      refine aw_zne rfl (fun _ => ?_) (fun z => absurd (by decide) z)
      rw [sp_adds_ov hov] at hQ
      exact aw_vret rfl rfl (hQ σ hfil hls)
    have hof : S.2 = false := by simpa using hov
    rw [hof]
    refine aw_zne rfl (fun z => absurd rfl z) (fun _ => ?_)
    refine aw_run 2 (F' := (13, [some (.ref k), some (.ref x), some (va_rf o), some (.int (nI dep))], [.int (nI 17), .int (nI dep)])) rfl ?_
    refine aw_cle rfl (fun _ => ?_) (fun z => absurd ((nI_leI (by omega) (by omega)).mpr (by omega)) z)
    cases P with
    | nil =>
      have ho : o = none := hst
      subst ho
      refine aw_run 1 (F' := (18, [some (.ref k), some (.ref x), some .null, some (.int (nI dep))], [.null])) rfl ?_
      refine aw_ifnon_n rfl ?_
      refine aw_run 2 (F' := (23, [some (.ref k), some (.ref x), some .null, some (.int (nI dep))], [.ref x, .ref k])) rfl ?_
      refine aw_v [.ref k, .ref x] [] rfl (by decide) rfl hkc rfl rfl (Nat.le_of_ble_eq_true rfl) (Nat.le_of_ble_eq_true rfl) ?_
      refine c_leaf (d := d + 2) hw hx hfil hls hov (fun σ' hfil' hls' => ?_)
      refine aw_run 1 (F' := (54, [some (.ref k), some (.ref x), some .null, some (.int (nI dep))], [])) rfl ?_
      exact aw_vret rfl rfl (hQ σ' hfil' hls')
    | cons s ss =>
      have hst' := hst
      obtain ⟨a, na, nx, rfl, za, zna, hac, hna, hnx⟩ := hst'
      have hac1 := (hZ a za).trans hac
      have hna1 := hna.kept (hZ na zna)
      have hx1 := hx.kept hZ (fun _ z => z)
      obtain ⟨zx0, fi, la, nx', ⟨kk, -, nax, bax, num, -, -, hxc, -⟩, hfr⟩ := hx
      have hfr1 := hfr.kept (h' := σ.1) hZ (fun _ z => z)
      have hxc1 := (hZ x zx0).trans hxc
      have hk18 : v.1.1 < 19 := by unfold kd at kk; omega
      refine aw_run 1 (F' := (18, [some (.ref k), some (.ref x), some (.ref a), some (.int (nI dep))], [.ref a])) rfl ?_
      refine aw_ifnon_r rfl ?_
      refine aw_run 1 (F' := (30, [some (.ref k), some (.ref x), some (.ref a), some (.int (nI dep))], [.ref x])) rfl ?_
      refine aw_get rfl hxc1 rfl ?_
      refine aw_run 1 (F' := (34, [some (.ref k), some (.ref x), some (.ref a), some (.int (nI dep))], [.int (nI 4), .int (nI v.1.1)])) rfl ?_
      unfold sp_lv at hQ
      refine aw_cne rfl (fun z => ?_) (fun z => ?_)
      · have z' : ¬ v.1.1 = 4 := fun y => z (by rw [y])
        rw [if_neg z'] at hQ
        refine aw_run 4 (F' := (51, [some (.ref k), some (.ref x), some (.ref a), some (.int (nI dep))], [.int (nI dep), .ref a, .ref x, .ref k])) rfl ?_
        refine aw_v [.ref k, .ref x, .ref a, .int (nI dep)] [] rfl (by decide) rfl hkc rfl rfl (Nat.le_of_ble_eq_true rfl) (Nat.le_of_ble_eq_true rfl) ?_
        have done : ∀ σ' : am_H, Q none σ' → AW g (d + 4) 40 (51 + 3, [some (.ref k), some (.ref x), some (.ref a), some (.int (nI dep))], []) σ' Q := fun σ' h => aw_vret rfl rfl h
        refine aw_run 2 (F' := (2, [some (.ref k), some (.ref x), some (.ref a), some (.int (nI dep)), none], [.ref a, .ref x])) rfl ?_
        refine aw_get rfl hac1 rfl ?_
        refine aw_v [.ref x, .ref na] [] rfl (by decide) rfl hxc1 rfl rfl (Nat.le_of_ble_eq_true rfl) (Nat.le_of_ble_eq_true rfl) ?_
        refine c_elem (d := d) hxc1 hna1 hfr1 (fun q => ?_) (fun y v' q hy => ?_)
        · rw [q] at hQ
          refine aw_run 2 (F' := (12, [some (.ref k), some (.ref x), some (.ref a), some (.int (nI dep)), some .null], [.null])) rfl ?_
          refine aw_ifnon_n rfl ?_
          refine aw_run 1 (F' := (16, [some (.ref k), some (.ref x), some (.ref a), some (.int (nI dep)), some .null], [.ref k])) rfl ?_
          refine aw_get rfl hkc rfl ?_
          refine aw_run 1 (F' := (20, [some (.ref k), some (.ref x), some (.ref a), some (.int (nI dep)), some .null], [.ref k, .ref w])) rfl ?_
          refine aw_get rfl hkc rfl ?_
          refine aw_v [.ref w, .ref m] [] rfl (by decide) rfl hwc rfl rfl (Nat.le_of_ble_eq_true rfl) (Nat.le_of_ble_eq_true rfl) ?_
          refine c_add hf hfil hls hm (fun σ' hfil' hls' => ?_)
          refine aw_run 1 (F' := (42, [some (.ref k), some (.ref x), some (.ref a), some (.int (nI dep)), some .null], [])) rfl ?_
          refine aw_vret rfl rfl (done σ' (hQ σ' hfil' ?_))
          show ls Z σ0.1 σ'.1 w va oa sa pa (sp_adds S [sp_miss])
          rw [sp_adds_one hov]
          exact hls'
        · rw [q] at hQ
          have hy0 := hy.kept (h' := σ0.1) (fun b zb => (hZ b zb).symm) (fun _ z => z)
          refine aw_run 2 (F' := (12, [some (.ref k), some (.ref x), some (.ref a), some (.int (nI dep)), some (.ref y)], [.ref y])) rfl ?_
          refine aw_ifnon_r rfl ?_
          refine aw_run 3 (F' := (33, [some (.ref k), some (.ref x), some (.ref a), some (.int (nI dep)), some (.ref y)], [.ref a, .ref y, .ref k])) rfl ?_
          refine aw_get rfl hac1 rfl ?_
          refine aw_run 3 (F' := (39, [some (.ref k), some (.ref x), some (.ref a), some (.int (nI dep)), some (.ref y)], [.int (nI dep + 1), va_rf nx, .ref y, .ref k])) rfl ?_
          rw [nI_1]
          have key := ih g (d + 2) Z σ0 σ (fun (v : Option Value) (σ' : am_H) => AW g (d + 3) 44 (39 + 3, [some (.ref k), some (.ref x), some (.ref a), some (.int (nI dep)), some (.ref y)], v.toList ++ []) σ' (fun (v : Option Value) (σ' : am_H) => AW g (d + 4) 40 (51 + 3, [some (.ref k), some (.ref x), some (.ref a), some (.int (nI dep))], v.toList ++ []) σ' Q)) k w va oa sa pa m y (dep + 1) it v' ss nx S hw hy0 hnx hfil hls (by omega) (by omega) (fun σ' hfil' hls' => by
            show AW g (d + 3) 44 (42, [some (.ref k), some (.ref x), some (.ref a), some (.int (nI dep)), some (.ref y)], []) σ' _
            exact aw_vret rfl rfl (done σ' (hQ σ' hfil' hls')))
          rcases nx with _ | z
          · refine aw_v [.ref k, .ref y, .null, .int (nI (dep + 1))] [] rfl (by decide) rfl hkc rfl rfl (Nat.le_of_ble_eq_true rfl) (Nat.le_of_ble_eq_true rfl) ?_
            exact key
          · refine aw_v [.ref k, .ref y, .ref z, .int (nI (dep + 1))] [] rfl (by decide) rfl hkc rfl rfl (Nat.le_of_ble_eq_true rfl) (Nat.le_of_ble_eq_true rfl) ?_
            exact key
      · have z' : v.1.1 = 4 := (nI_eq (by omega) (by omega)).mp (Decidable.of_not_not z)
        rw [if_pos z'] at hQ
        refine aw_run 4 (F' := (41, [some (.ref k), some (.ref x), some (.ref a), some (.int (nI dep))], [.int (nI dep), .ref a, .ref x, .ref k])) rfl ?_
        refine aw_v [.ref k, .ref x, .ref a, .int (nI dep)] [] rfl (by decide) rfl hkc rfl rfl (Nat.le_of_ble_eq_true rfl) (Nat.le_of_ble_eq_true rfl) ?_
        have done : ∀ σ' : am_H, Q none σ' → AW g (d + 4) 40 (41 + 3, [some (.ref k), some (.ref x), some (.ref a), some (.int (nI dep))], []) σ' Q := fun σ' h => by
          refine aw_run 1 (F' := (54, [some (.ref k), some (.ref x), some (.ref a), some (.int (nI dep))], [])) rfl ?_
          exact aw_vret rfl rfl h
        refine aw_run 2 (F' := (2, [some (.ref k), some (.ref x), some (.ref a), some (.int (nI dep)), none, none], [.ref a, .ref x])) rfl ?_
        refine aw_get rfl hac1 rfl ?_
        refine aw_v [.ref x, .ref na] [] rfl (by decide) rfl hxc1 rfl rfl (Nat.le_of_ble_eq_true rfl) (Nat.le_of_ble_eq_true rfl) ?_
        have loop : ∀ (e0 : Option Nat) (σ' : am_H) (S' : sp_X × Bool), fil σ0 σ' w va oa → ls Z σ0.1 σ'.1 w va oa sa pa S' → (∀ σ'' : am_H, fil σ0 σ'' w va oa → ls Z σ0.1 σ''.1 w va oa sa pa (sp_adds S' ((sp_toL v.2).flatMap (fun w => if w.1.1 = 3 then sp_lv it n w (s :: ss) else []))) → Q none σ'') → AW g (d + 3) 43 (28, [some (.ref k), some (.ref x), some (.ref a), some (.int (nI dep)), some (va_rf e0), none], []) σ' (fun (v : Option Value) (σ' : am_H) => AW g (d + 4) 40 (41 + 3, [some (.ref k), some (.ref x), some (.ref a), some (.int (nI dep))], v.toList ++ []) σ' Q) := by
          intro e0 σ' S' hfil' hls' hQ'
          have hxc2 := (hfil'.z hf x zx0).trans hxc
          refine aw_run 1 (F' := (29, [some (.ref k), some (.ref x), some (.ref a), some (.int (nI dep)), some (va_rf e0), none], [.ref x])) rfl ?_
          refine aw_get rfl hxc2 rfl ?_
          have key := c_rowL (d := d + 2) (x := x) (e0 := e0) (Q := fun (v : Option Value) (σ' : am_H) => AW g (d + 4) 40 (41 + 3, [some (.ref k), some (.ref x), some (.ref a), some (.int (nI dep))], v.toList ++ []) σ' Q) ih hw hst hdep (by omega) v.2 fi σ' S' hfr hfil' hls' (fun σ'' h1 h2 => done σ'' (hQ' σ'' h1 h2))
          rcases fi with _ | z <;> rcases e0 with _ | e0
          · refine aw_run 1 (F' := (34, [some (.ref k), some (.ref x), some (.ref a), some (.int (nI dep)), some .null, some .null], [])) rfl ?_
            exact key
          · refine aw_run 1 (F' := (34, [some (.ref k), some (.ref x), some (.ref a), some (.int (nI dep)), some (.ref e0), some .null], [])) rfl ?_
            exact key
          · refine aw_run 1 (F' := (34, [some (.ref k), some (.ref x), some (.ref a), some (.int (nI dep)), some .null, some (.ref z)], [])) rfl ?_
            exact key
          · refine aw_run 1 (F' := (34, [some (.ref k), some (.ref x), some (.ref a), some (.int (nI dep)), some (.ref e0), some (.ref z)], [])) rfl ?_
            exact key
        refine c_elem (d := d) hxc1 hna1 hfr1 (fun q => ?_) (fun y v' q hy => ?_)
        · rw [q] at hQ
          refine aw_run 2 (F' := (12, [some (.ref k), some (.ref x), some (.ref a), some (.int (nI dep)), some .null, none], [.null])) rfl ?_
          refine aw_ifnull_n rfl ?_
          exact loop none σ S hfil hls hQ
        · rw [q] at hQ
          have hy0 := hy.kept (h' := σ0.1) (fun b zb => (hZ b zb).symm) (fun _ z => z)
          refine aw_run 2 (F' := (12, [some (.ref k), some (.ref x), some (.ref a), some (.int (nI dep)), some (.ref y), none], [.ref y])) rfl ?_
          refine aw_ifnull_r rfl ?_
          refine aw_run 3 (F' := (19, [some (.ref k), some (.ref x), some (.ref a), some (.int (nI dep)), some (.ref y), none], [.ref a, .ref y, .ref k])) rfl ?_
          refine aw_get rfl hac1 rfl ?_
          refine aw_run 3 (F' := (25, [some (.ref k), some (.ref x), some (.ref a), some (.int (nI dep)), some (.ref y), none], [.int (nI dep + 1), va_rf nx, .ref y, .ref k])) rfl ?_
          rw [nI_1]
          have key := ih g (d + 2) Z σ0 σ (fun (v : Option Value) (σ' : am_H) => AW g (d + 3) 43 (25 + 3, [some (.ref k), some (.ref x), some (.ref a), some (.int (nI dep)), some (.ref y), none], v.toList ++ []) σ' (fun (v : Option Value) (σ' : am_H) => AW g (d + 4) 40 (41 + 3, [some (.ref k), some (.ref x), some (.ref a), some (.int (nI dep))], v.toList ++ []) σ' Q)) k w va oa sa pa m y (dep + 1) it v' ss nx S hw hy0 hnx hfil hls (by omega) (by omega) (fun σ' hfil' hls' => by
            show AW g (d + 3) 43 (28, [some (.ref k), some (.ref x), some (.ref a), some (.int (nI dep)), some (.ref y), none], []) σ' _
            exact loop (some y) σ' _ hfil' hls' (fun σ'' h1 h2 => hQ σ'' h1 (by rw [sp_adds_app]; exact h2)))
          rcases nx with _ | z
          · refine aw_v [.ref k, .ref y, .null, .int (nI (dep + 1))] [] rfl (by decide) rfl hkc rfl rfl (Nat.le_of_ble_eq_true rfl) (Nat.le_of_ble_eq_true rfl) ?_
            exact key
          · refine aw_v [.ref k, .ref y, .ref z, .int (nI (dep + 1))] [] rfl (by decide) rfl hkc rfl rfl (Nat.le_of_ble_eq_true rfl) (Nat.le_of_ble_eq_true rfl) ?_
            exact key
end P41
end
section
/-! paths read from bytes -/
def sp_pl (β : Nat → Nat) : Nat → Nat → List (List Nat) → Option (List (List Nat))
  | 0, e, acc => if 0 = e ∨ acc.length = 8 then none else some (sp_sub β 0 e :: acc)
  | j + 1, e, acc => if β j = 0 then none else if β j = 46 then (if j + 1 = e ∨ acc.length = 8 then none else sp_pl β j j (sp_sub β (j + 1) e :: acc)) else sp_pl β j e acc
def sp_pth (β : Nat → Nat) (n : Nat) : Option (List (List Nat)) := if sp_tx β n 0 n = true then sp_pl β n n [] else none
/-- only new cells -/
def nwx (σ σ' : am_H) (k m : Nat) : Prop := (∀ a, a < σ.2.1 → σ'.1 a = σ.1 a) ∧ σ.2.1 ≤ σ'.2.1 ∧ σ'.2.1 ≤ σ.2.1 + k ∧ σ.2.2 ≤ σ'.2.2 ∧ σ'.2.2 ≤ σ.2.2 + m ∧ wf σ'
theorem nwx.trans {σ σ' σ'' : am_H} {k m k' m' : Nat} (h : nwx σ σ' k m) (h' : nwx σ' σ'' k' m') : nwx σ σ'' (k + k') (m + m') := by
  obtain ⟨a1, a2, a3, a4, a5, a6⟩ := h
  obtain ⟨b1, b2, b3, b4, b5, b6⟩ := h'
  exact ⟨fun a h => (b1 a (by omega)).trans (a1 a h), by omega, by omega, by omega, by omega, b6⟩
theorem nwx.mono {σ σ' : am_H} {k m k' m' : Nat} (h : nwx σ σ' k m) (hk : k ≤ k') (hm : m ≤ m') : nwx σ σ' k' m' := by
  obtain ⟨a1, a2, a3, a4, a5, a6⟩ := h
  exact ⟨a1, a2, by omega, a4, by omega, a6⟩
theorem nwx.self {σ : am_H} (h : wf σ) : nwx σ σ 0 0 := ⟨fun _ _ => rfl, Nat.le_refl _, Nat.le_refl _, Nat.le_refl _, Nat.le_refl _, h⟩
theorem nwx.new {σ : am_H} (h : wf σ) {c : am_C} {n : Nat} : nwx σ (am_psh σ c n) 1 n := ⟨fun a ha => am_psh_ne _ _ _ (by omega), by show σ.2.1 ≤ σ.2.1 + 1; omega, Nat.le_refl _, by show σ.2.2 ≤ σ.2.2 + n; omega, Nat.le_refl _, h.psh⟩
theorem nwx.setx {σ σ2 : am_H} {k m x : Nat} {c0 c : am_C} (h : nwx σ σ2 k m) (hx : σ.2.1 ≤ x) (hc : σ2.1 x = some c0) : nwx σ (am_set σ2 x c) k m := by
  obtain ⟨a1, a2, a3, a4, a5, a6⟩ := h
  exact ⟨fun a h1 => (am_set_ne _ _ (by omega)).trans (a1 a h1), a2, a3, a4, a5, a6.set hc⟩
def tok (g : Nat × Nat) (σ : am_H) (t N : Nat) (β : Nat → Nat) : Prop := g.1 ≤ t ∧ g.1 ≤ σ.2.1 ∧ g.2 < g.1 ∧ wf σ ∧ byf σ.1 t N β ∧ bya σ.1 g.2 []
theorem tok.go {g : Nat × Nat} {σ σ' : am_H} {t N k m : Nat} {β : Nat → Nat} (h : tok g σ t N β) (h' : nwx σ σ' k m) : tok g σ' t N β := by
  obtain ⟨a1, a2, a3, a4, a5, a6⟩ := h
  obtain ⟨b1, b2, b3, b4, b5, b6⟩ := h'
  have ht : t < σ.2.1 := by
    obtain ⟨-, f, q, -⟩ := id a5
    exact a4 _ _ q
  exact ⟨a1, by omega, a3, b6, a5.kept (b1 t ht), a6.kept (b1 _ (by omega))⟩
theorem stc.cnt {Z : Nat → Prop} {h : Nat → Option am_C} {P : List (List Nat)} {o : Option Nat} (q : stc Z h P o) : (P = [] ∧ o = none) ∨ (P ≠ [] ∧ ∃ a w0 w1, o = some a ∧ h a = some (.inr (5, [w0, w1, .int (nI P.length)]))) := by
  cases P with
  | nil => exact Or.inl ⟨rfl, q⟩
  | cons s P =>
    obtain ⟨a, na, nx, h1, -, -, h2, -⟩ := q
    exact Or.inr ⟨by simp, a, _, _, h1, h2⟩
section P42
variable {g : Nat × Nat} {d : Nat} {σ : am_H} {Q : Option Value → am_H → Prop}
/-- Step's constructor -/
theorem c_stp {Z : Nat → Prop} {x na : Nat} {acc : List (List Nat)} {o : Option Nat} {w0 w1 w2 : Value} (hg : g.1 ≤ x) (hx : σ.1 x = some (.inr (5, [w0, w1, w2]))) (hst : stc Z σ.1 acc o) (hxo : ¬ Z x) (hQ : Q none (am_set σ x (.inr (5, [.ref na, va_rf o, .int (nI (acc.length + 1))])))) : AW g (d + 1) 30 (0, [some (.ref x), some (.ref na), some (va_rf o)], []) σ Q := by
  refine aw_run 1 (F' := (1, [some (.ref x), some (.ref na), some (va_rf o)], [.ref x])) rfl ?_
  refine aw_obj rfl (Nat.le_of_ble_eq_true rfl) (by omega) ?_
  refine aw_run 2 (F' := (6, [some (.ref x), some (.ref na), some (va_rf o)], [.ref na, .ref x])) rfl ?_
  refine aw_put rfl hg hx (Nat.le_of_ble_eq_true rfl) rfl rfl ?_
  cases acc with
  | nil =>
    have ho : o = none := hst
    subst ho
    refine aw_run 2 (F' := (11, [some (.ref x), some (.ref na), some .null], [.null, .ref x])) rfl ?_
    refine aw_put rfl hg (am_set_same _ _ _) (Nat.le_of_ble_eq_true rfl) rfl rfl ?_
    rw [am_set_set]
    refine aw_run 2 (F' := (16, [some (.ref x), some (.ref na), some .null], [.null, .ref x])) rfl ?_
    refine aw_ifnon_n rfl ?_
    refine aw_run 2 (F' := (29, [some (.ref x), some (.ref na), some .null], [.int (nI 1), .ref x])) rfl ?_
    refine aw_put rfl hg (am_set_same _ _ _) (Nat.le_of_ble_eq_true rfl) rfl rfl ?_
    rw [am_set_set]
    exact aw_vret rfl rfl hQ
  | cons s acc =>
    obtain ⟨a, nb, nx, rfl, za, -, hac, -⟩ := hst
    have hax : a ≠ x := fun q => hxo (q ▸ za)
    refine aw_run 2 (F' := (11, [some (.ref x), some (.ref na), some (.ref a)], [.ref a, .ref x])) rfl ?_
    refine aw_put rfl hg (am_set_same _ _ _) (Nat.le_of_ble_eq_true rfl) rfl rfl ?_
    rw [am_set_set]
    refine aw_run 2 (F' := (16, [some (.ref x), some (.ref na), some (.ref a)], [.ref a, .ref x])) rfl ?_
    refine aw_ifnon_r rfl ?_
    refine aw_run 1 (F' := (24, [some (.ref x), some (.ref na), some (.ref a)], [.ref a, .ref x])) rfl ?_
    refine aw_get rfl ((am_set_ne _ _ hax).trans hac) rfl ?_
    refine aw_run 2 (F' := (29, [some (.ref x), some (.ref na), some (.ref a)], [.int (nI (acc.length + 1) + 1), .ref x])) rfl ?_
    rw [nI_1]
    refine aw_put rfl hg (am_set_same _ _ _) (Nat.le_of_ble_eq_true rfl) rfl rfl ?_
    rw [am_set_set]
    exact aw_vret rfl rfl hQ
/-- chainOf: a step is made -/
theorem c_ch60 {β : Nat → Nat} {N t n e jj lo : Nat} {I : Int32} {acc : List (List Nat)} {o : Option Nat} {f : Option Value} (ht : tok g σ t N β) (hI : I + 1 = nI jj) (hje : jj ≤ e) (heN : e ≤ N) (hlo : g.2 < lo) (hlo2 : lo ≤ σ.2.1) (hst : stc (zn g lo σ.2.1) σ.1 acc o) (hacc : acc.length ≤ 8) (hN : (jj = e ∨ acc.length = 8) → Q (some .null) σ) (hS : ¬ (jj = e ∨ acc.length = 8) → ∀ (σ' : am_H) (x : Nat) (f' : Int32), nwx σ σ' 2 (3 + (e - jj)) → stc (zn g lo σ'.2.1) σ'.1 (sp_sub β jj e :: acc) (some x) → AW g (d + 4) 29 (116, [some (.ref t), some (.int (nI n)), some (.ref x), some (.int I), some (.int I), some (.int f')], []) σ' Q) : AW g (d + 4) 29 (60, [some (.ref t), some (.int (nI n)), some (va_rf o), some (.int (nI e)), some (.int I), f], []) σ Q := by
  have ht' := ht
  obtain ⟨a1, a2, a3, a4, a5, a6⟩ := ht'
  have hbN : N < 65536 := a5.1
  have tail : ∀ b : Int32, b = bI (decide (acc.length = 8)) → AW g (d + 4) 29 (78, [some (.ref t), some (.int (nI n)), some (va_rf o), some (.int (nI e)), some (.int I), f], [.int b]) σ Q := by
    intro b hb
    refine aw_run 5 (F' := (85, [some (.ref t), some (.int (nI n)), some (va_rf o), some (.int (nI e)), some (.int I), some (.int b)], [.int (nI e), .int (I + 1)])) rfl ?_
    rw [hI]
    have fail : (jj = e ∨ acc.length = 8) → AW g (d + 4) 29 (93, [some (.ref t), some (.int (nI n)), some (va_rf o), some (.int (nI e)), some (.int I), some (.int b)], []) σ Q := by
      intro q
      refine aw_run 1 (F' := (94, [some (.ref t), some (.int (nI n)), some (va_rf o), some (.int (nI e)), some (.int I), some (.int b)], [.null])) rfl ?_
      exact aw_nret rfl ⟨_, rfl, Or.inl ⟨_, rfl⟩⟩ (hN q)
    refine aw_ceq rfl (fun q => fail (Or.inl ((nI_eq (by omega) (by omega)).mp q))) (fun q => ?_)
    have q' : ¬ jj = e := fun z => q (by rw [z])
    refine aw_run 1 (F' := (90, [some (.ref t), some (.int (nI n)), some (va_rf o), some (.int (nI e)), some (.int I), some (.int b)], [.int b])) rfl ?_
    by_cases h8 : acc.length = 8
    · refine aw_zeq rfl (fun z => absurd z (by rw [hb, h8]; decide)) (fun _ => fail (Or.inr h8))
    have hb0 : b = 0 := by rw [hb, decide_eq_false h8]; rfl
    subst hb0
    refine aw_zeq rfl (fun _ => ?_) (fun z => absurd rfl z)
    refine aw_new rfl ?_
    have hat1 := nwx.new a4 (c := .inr (5, am_def 5)) (n := am_nf 5)
    have hc1 := am_psh_same σ (.inr (5, am_def 5)) (am_nf 5)
    have hn1 : (am_psh σ (.inr (5, am_def 5)) (am_nf 5)).2.1 = σ.2.1 + 1 := rfl
    generalize am_psh σ (.inr (5, am_def 5)) (am_nf 5) = σ1 at hat1 hc1 hn1 ⊢
    have ht1 := ht.go hat1
    have ht1' := ht1
    obtain ⟨b1, b2, b3, b4, b5, b6⟩ := ht1'
    refine aw_run 6 (F' := (105, [some (.ref t), some (.int (nI n)), some (va_rf o), some (.int (nI e)), some (.int I), some (.int 0)], [.int (nI e), .int (I + 1), .ref t, .ref σ.2.1, .ref σ.2.1])) rfl ?_
    rw [hI]
    refine aw_s [.ref t, .int (nI jj), .int (nI e)] [.ref σ.2.1, .ref σ.2.1] rfl ⟨by decide, by decide⟩ rfl rfl (Nat.le_of_ble_eq_true rfl) (Nat.le_of_ble_eq_true rfl) ?_
    refine c_cobL (d := d) b1 b2 b4 b5 hje heN b6 (fun na σ2 hna hz k1 k2 k3 k4 k5 k6 => ?_)
    have hat2 : nwx σ1 σ2 1 (e - jj) := ⟨k1, k2, k3, k4, k5, k6⟩
    have hx2 : σ2.1 σ.2.1 = some (.inr (5, am_def 5)) := (k1 _ (by omega)).trans hc1
    have h02 := hat1.trans hat2
    have hst2 := hst.kept (h' := σ2.1) (Z' := zn g lo σ.2.1) (fun a ha => by
      rcases ha with ⟨z1, z2⟩ | rfl
      · exact h02.1 a z2
      · exact h02.1 _ (by omega)) (fun _ z => z)
    have hxz : ¬ zn g lo σ.2.1 σ.2.1 := by
      rintro (⟨z1, z2⟩ | z)
      · omega
      · omega
    have key := c_stp (g := g) (d := d + 2) (σ := σ2) (na := na) (Q := fun v σ' => AW g (d + 4) 29 (109 + 3, [some (.ref t), some (.int (nI n)), some (va_rf o), some (.int (nI e)), some (.int I), some (.int 0)], v.toList ++ [.ref σ.2.1]) σ' Q) (by omega : g.1 ≤ σ.2.1) hx2 hst2 hxz ?_
    · rcases o with _ | y
      · refine aw_run 1 (F' := (109, [some (.ref t), some (.int (nI n)), some .null, some (.int (nI e)), some (.int I), some (.int 0)], [.null, .ref na, .ref σ.2.1, .ref σ.2.1])) rfl ?_
        refine aw_i [.ref σ.2.1, .ref na, .null] [.ref σ.2.1] rfl (by decide) rfl rfl rfl (Nat.le_of_ble_eq_true rfl) (Nat.le_of_ble_eq_true rfl) ?_
        exact key
      · refine aw_run 1 (F' := (109, [some (.ref t), some (.int (nI n)), some (.ref y), some (.int (nI e)), some (.int I), some (.int 0)], [.ref y, .ref na, .ref σ.2.1, .ref σ.2.1])) rfl ?_
        refine aw_i [.ref σ.2.1, .ref na, .ref y] [.ref σ.2.1] rfl (by decide) rfl rfl rfl (Nat.le_of_ble_eq_true rfl) (Nat.le_of_ble_eq_true rfl) ?_
        exact key
    · have hat3 := (h02.setx (c := .inr (5, [.ref na, va_rf o, .int (nI (acc.length + 1))])) (Nat.le_refl _) hx2).mono (k' := 2) (m' := 3 + (e - jj)) (by omega) (Nat.le_refl _)
      have hx3 := am_set_same σ2 σ.2.1 (.inr (5, [.ref na, va_rf o, .int (nI (acc.length + 1))]))
      have hk3 : ∀ a, a ≠ σ.2.1 → (am_set σ2 σ.2.1 (.inr (5, [.ref na, va_rf o, .int (nI (acc.length + 1))]))).1 a = σ2.1 a := fun a ha => am_set_ne _ _ ha
      have hn3 : (am_set σ2 σ.2.1 (.inr (5, [.ref na, va_rf o, .int (nI (acc.length + 1))]))).2.1 = σ2.2.1 := rfl
      show AW g (d + 4) 29 (112, [some (.ref t), some (.int (nI n)), some (va_rf o), some (.int (nI e)), some (.int I), some (.int 0)], [.ref σ.2.1]) (am_set σ2 σ.2.1 (.inr (5, [.ref na, va_rf o, .int (nI (acc.length + 1))]))) Q
      generalize am_set σ2 σ.2.1 (.inr (5, [.ref na, va_rf o, .int (nI (acc.length + 1))])) = σ3 at hat3 hx3 hk3 hn3 ⊢
      refine aw_run 3 (F' := (116, [some (.ref t), some (.int (nI n)), some (.ref σ.2.1), some (.int I), some (.int I), some (.int 0)], [])) rfl ?_
      refine hS (fun z => by rcases z with z | z <;> contradiction) σ3 σ.2.1 0 hat3 ⟨σ.2.1, na, o, rfl, Or.inl ⟨hlo2, by omega⟩, ?_, hx3, hna.kept (hk3 _ ?_), stc.kept (Z := zn g lo σ.2.1) (fun a ha => hk3 a (fun q => hxz (by rw [q] at ha; exact ha))) ?_ hst2⟩
      · rcases hz with ⟨z1, z2⟩ | z
        · exact Or.inl ⟨by omega, by omega⟩
        · exact Or.inr z
      · rcases hz with ⟨z1, z2⟩ | z <;> omega
      · intro a ha
        rcases ha with ⟨z1, z2⟩ | z
        · exact Or.inl ⟨z1, by omega⟩
        · exact Or.inr z
  rcases hst.cnt with ⟨rfl, rfl⟩ | ⟨hne, a, w0, w1, rfl, hac⟩
  · refine aw_run 1 (F' := (61, [some (.ref t), some (.int (nI n)), some .null, some (.int (nI e)), some (.int I), f], [.null])) rfl ?_
    refine aw_ifnull_n rfl ?_
    refine aw_run 1 (F' := (78, [some (.ref t), some (.int (nI n)), some .null, some (.int (nI e)), some (.int I), f], [.int 0])) rfl ?_
    exact tail 0 rfl
  · refine aw_run 1 (F' := (61, [some (.ref t), some (.int (nI n)), some (.ref a), some (.int (nI e)), some (.int I), f], [.ref a])) rfl ?_
    refine aw_ifnull_r rfl ?_
    refine aw_run 1 (F' := (65, [some (.ref t), some (.int (nI n)), some (.ref a), some (.int (nI e)), some (.int I), f], [.ref a])) rfl ?_
    refine aw_get rfl hac rfl ?_
    refine aw_run 1 (F' := (70, [some (.ref t), some (.int (nI n)), some (.ref a), some (.int (nI e)), some (.int I), f], [.int (nI 8), .int (nI acc.length)])) rfl ?_
    refine aw_cne rfl (fun z => ?_) (fun z => ?_)
    · have z' : ¬ acc.length = 8 := fun y => z (by rw [y])
      refine aw_run 1 (F' := (78, [some (.ref t), some (.int (nI n)), some (.ref a), some (.int (nI e)), some (.int I), f], [.int 0])) rfl ?_
      exact tail 0 (by rw [decide_eq_false z']; rfl)
    · have z' : acc.length = 8 := (nI_eq (by omega) (by omega)).mp (Decidable.of_not_not z)
      refine aw_run 2 (F' := (78, [some (.ref t), some (.int (nI n)), some (.ref a), some (.int (nI e)), some (.int I), f], [.int 1])) rfl ?_
      exact tail 1 (by rw [decide_eq_true z']; rfl)
/-- chainOf: its loop -/
theorem c_chL {β : Nat → Nat} {N t n lo : Nat} {σ0 : am_H} (ht0 : tok g σ0 t N β) (hlo : lo = σ0.2.1) (hn : n ≤ N) (hf0 : ∀ (σ' : am_H), nwx σ0 σ' 16 (24 + n) → sp_pth β n = none → Q (some .null) σ') (hS : ∀ (P : List (List Nat)) (σ' : am_H) (x : Nat), sp_pth β n = some P → nwx σ0 σ' 16 (24 + n) → stc (zn g lo σ'.2.1) σ'.1 P (some x) → Q (some (.ref x)) σ') : ∀ (j e : Nat) (σ : am_H) (acc : List (List Nat)) (o : Option Nat) (I : Int32) (f : Option Value), I + 1 = nI j → j ≤ e → e ≤ n → acc.length ≤ 8 → nwx σ0 σ (2 * acc.length) (3 * acc.length + (n - e)) → stc (zn g lo σ.2.1) σ.1 acc o → sp_pth β n = sp_pl β j e acc → AW g (d + 4) 29 (26, [some (.ref t), some (.int (nI n)), some (va_rf o), some (.int (nI e)), some (.int I), f], []) σ Q := by
  subst hlo
  have ht0' := ht0
  obtain ⟨a1, a2, a3, a4, a5, a6⟩ := ht0'
  have hbN : N < 65536 := a5.1
  intro j
  induction j with
  | zero =>
    intro e σ acc o I f hI hje hen hacc hat hst hp
    have hI' : I = -1 := by
      have : I + 1 - 1 = nI 0 - 1 := by rw [hI]
      rw [Int32.add_sub_cancel] at this
      rw [this]
      decide
    subst hI'
    refine aw_run 2 (F' := (29, [some (.ref t), some (.int (nI n)), some (va_rf o), some (.int (nI e)), some (.int (-1)), f], [.int (-1), .int (-1)])) rfl ?_
    refine aw_clt rfl (fun z => absurd z (by decide)) (fun _ => ?_)
    refine aw_run 1 (F' := (34, [some (.ref t), some (.int (nI n)), some (va_rf o), some (.int (nI e)), some (.int (-1)), f], [.int (-1)])) rfl ?_
    refine aw_zlt rfl (fun _ => ?_) (fun z => absurd (by decide) z)
    refine aw_run 1 (F' := (48, [some (.ref t), some (.int (nI n)), some (va_rf o), some (.int (nI e)), some (.int (-1)), f], [.int (-1)])) rfl ?_
    refine aw_zlt rfl (fun _ => ?_) (fun z => absurd (by decide) z)
    refine c_ch60 (d := d) (ht0.go hat) hI (by omega) (by omega) (by omega) hat.2.1 hst hacc (fun q => ?_) (fun q σ' x f' h hst' => ?_)
    · exact hf0 σ (hat.mono (by omega) (by omega)) (by rw [hp]; exact if_pos q)
    · have hp' : sp_pth β n = some (sp_sub β 0 e :: acc) := by rw [hp]; exact if_neg q
      refine aw_run 4 (F' := (29, [some (.ref t), some (.int (nI n)), some (.ref x), some (.int (-1)), some (.int (-1 + -1)), some (.int f')], [.int (-1), .int (-1 + -1)])) rfl ?_
      refine aw_clt rfl (fun _ => ?_) (fun z => absurd (by decide) z)
      refine aw_run 1 (F' := (123, [some (.ref t), some (.int (nI n)), some (.ref x), some (.int (-1)), some (.int (-1 + -1)), some (.int f')], [.ref x])) rfl ?_
      exact aw_aret rfl ⟨_, rfl, Or.inl ⟨_, rfl⟩⟩ (hS _ σ' x hp' ((hat.trans h).mono (by omega) (by omega)) hst')
  | succ j ih =>
    intro e σ acc o I f hI hje hen hacc hat hst hp
    have hI' : I = nI j := by
      have : I + 1 - 1 = nI (j + 1) - 1 := by rw [hI]
      rw [Int32.add_sub_cancel, nI_pred] at this
      exact this
    subst hI'
    have htk := ht0.go hat
    obtain ⟨-, -, -, -, b5, -⟩ := htk
    obtain ⟨-, fb, hb, hbf⟩ := b5
    have hbj := hbf j (by omega)
    have e1 : fb (nI j).toNatClampNeg = sb_b (β j) := by rw [nI_clamp (by omega), hbj.2]
    have hpos := nI_pos (n := j) (by omega)
    refine aw_run 2 (F' := (29, [some (.ref t), some (.int (nI n)), some (va_rf o), some (.int (nI e)), some (.int (nI j)), f], [.int (-1), .int (nI j)])) rfl ?_
    refine aw_clt rfl (fun z => absurd z (fun z => hpos (Int32.lt_trans z (by decide)))) (fun _ => ?_)
    refine aw_run 1 (F' := (34, [some (.ref t), some (.int (nI n)), some (va_rf o), some (.int (nI e)), some (.int (nI j)), f], [.int (nI j)])) rfl ?_
    refine aw_zlt rfl (fun z => absurd z hpos) (fun _ => ?_)
    refine aw_run 2 (F' := (40, [some (.ref t), some (.int (nI n)), some (va_rf o), some (.int (nI e)), some (.int (nI j)), f], [.int (nI j), .ref t])) rfl ?_
    refine aw_bald rfl hb (vp_in_nI (by omega) (by omega)) ?_
    rw [e1]
    refine aw_zne rfl (fun z => ?_) (fun z => ?_)
    rotate_left
    · have z' : β j = 0 := sb_inj _ hbj.1 0 (by omega) (Decidable.of_not_not z)
      refine aw_run 1 (F' := (45, [some (.ref t), some (.int (nI n)), some (va_rf o), some (.int (nI e)), some (.int (nI j)), f], [.null])) rfl ?_
      exact aw_nret rfl ⟨_, rfl, Or.inl ⟨_, rfl⟩⟩ (hf0 σ (hat.mono (by omega) (by omega)) (by rw [hp]; exact if_pos z'))
    have z' : ¬ β j = 0 := fun y => z (by rw [y]; rfl)
    refine aw_run 1 (F' := (48, [some (.ref t), some (.int (nI n)), some (va_rf o), some (.int (nI e)), some (.int (nI j)), f], [.int (nI j)])) rfl ?_
    refine aw_zlt rfl (fun z => absurd z hpos) (fun _ => ?_)
    refine aw_run 2 (F' := (54, [some (.ref t), some (.int (nI n)), some (va_rf o), some (.int (nI e)), some (.int (nI j)), f], [.int (nI j), .ref t])) rfl ?_
    refine aw_bald rfl hb (vp_in_nI (by omega) (by omega)) ?_
    rw [e1]
    refine aw_run 1 (F' := (57, [some (.ref t), some (.int (nI n)), some (va_rf o), some (.int (nI e)), some (.int (nI j)), f], [.int 46, .int (sb_b (β j))])) rfl ?_
    unfold sp_pl at hp
    rw [if_neg z'] at hp
    refine aw_cne rfl (fun y => ?_) (fun y => ?_)
    · have y' : ¬ β j = 46 := fun q => y (by rw [q]; rfl)
      rw [if_neg y'] at hp
      refine aw_run 2 (F' := (26, [some (.ref t), some (.int (nI n)), some (va_rf o), some (.int (nI e)), some (.int (nI j + -1)), f], [])) rfl ?_
      exact ih e σ acc o (nI j + -1) f (by rw [Int32.add_assoc]; show nI j + 0 = _; rw [Int32.add_zero]) (by omega) hen hacc hat hst hp
    · have y' : β j = 46 := sb_inj _ hbj.1 46 (by omega) (Decidable.of_not_not y)
      rw [if_pos y'] at hp
      refine c_ch60 (d := d) (ht0.go hat) hI (by omega) (by omega) (by omega) hat.2.1 hst hacc (fun q => ?_) (fun q σ' x f' h hst' => ?_)
      · exact hf0 σ (hat.mono (by omega) (by omega)) (by rw [hp]; exact if_pos q)
      · rw [if_neg q] at hp
        have htot := (hat.trans h).mono (k' := 2 * (sp_sub β (j + 1) e :: acc).length) (m' := 3 * (sp_sub β (j + 1) e :: acc).length + (n - j)) (by simp; omega) (by simp; omega)
        refine aw_run 2 (F' := (26, [some (.ref t), some (.int (nI n)), some (.ref x), some (.int (nI j)), some (.int (nI j + -1)), some (.int f')], [])) rfl ?_
        exact ih j σ' (sp_sub β (j + 1) e :: acc) (some x) (nI j + -1) _ (by rw [Int32.add_assoc]; show nI j + 0 = _; rw [Int32.add_zero]) (Nat.le_refl _) (by omega) (by simp; omega) htot hst' hp
/-- Step.chainOf -/
theorem c_chn {β : Nat → Nat} {N t n : Nat} (ht : tok g σ t N β) (hn : n ≤ N) (hN : ∀ (σ' : am_H), nwx σ σ' 16 (24 + n) → sp_pth β n = none → Q (some .null) σ') (hS : ∀ (P : List (List Nat)) (σ' : am_H) (x : Nat), sp_pth β n = some P → nwx σ σ' 16 (24 + n) → stc (zn g σ.2.1 σ'.2.1) σ'.1 P (some x) → Q (some (.ref x)) σ') : AW g (d + 4) 29 (0, [some (.ref t), some (.int (nI n)), none, none, none, none], []) σ Q := by
  have ht' := ht
  obtain ⟨a1, a2, a3, a4, a5, a6⟩ := ht'
  have a5' := a5
  obtain ⟨hbN, fb, hb, hbf⟩ := a5'
  refine aw_run 2 (F' := (2, [some (.ref t), some (.int (nI n)), none, none, none, none], [.ref t, .int (nI n)])) rfl ?_
  refine aw_len rfl hb (by decide) ?_
  refine aw_cgt rfl (fun z => absurd ((nI_ltI (by omega) (by omega)).mp z) (by omega)) (fun _ => ?_)
  refine aw_run 3 (F' := (9, [some (.ref t), some (.int (nI n)), none, none, none, none], [.int (nI n), .int (nI 0), .ref t])) rfl ?_
  refine aw_s [.ref t, .int (nI 0), .int (nI n)] [] rfl ⟨by decide, by decide⟩ rfl rfl (Nat.le_of_ble_eq_true rfl) (Nat.le_of_ble_eq_true rfl) ?_
  refine c_isRight (d := d + 2) a5 (by omega) hn ?_
  rw [Nat.sub_zero]
  by_cases hr : sp_tx β n 0 n = true
  · rw [if_pos hr]
    refine aw_zne rfl (fun _ => ?_) (fun z => absurd (by decide) z)
    refine aw_run 8 (F' := (26, [some (.ref t), some (.int (nI n)), some .null, some (.int (nI n)), some (.int (nI n - 1)), none], [])) rfl ?_
    exact c_chL (d := d) ht rfl hn hN hS n n σ [] none (nI n - 1) none (Int32.sub_add_cancel _ _) (Nat.le_refl _) (Nat.le_refl _) (by simp) ((nwx.self a4).mono (by simp) (by simp)) rfl (by unfold sp_pth; rw [if_pos hr])
  · rw [if_neg hr]
    refine aw_zne rfl (fun z => absurd rfl z) (fun _ => ?_)
    refine aw_run 1 (F' := (16, [some (.ref t), some (.int (nI n)), none, none, none, none], [.null])) rfl ?_
    exact aw_nret rfl ⟨_, rfl, Or.inl ⟨_, rfl⟩⟩ (hN σ ((nwx.self a4).mono (by omega) (by omega)) (by unfold sp_pth; rw [if_neg hr]))
end P42
end
section
/-! sorting -/
def is3 (x : Int32) : Prop := x = -1 ∨ x = 0 ∨ x = 1
theorem is3_or {x y : Int32} (hx : is3 x) (hy : is3 y) : is3 (sp_or x y) := by
  unfold sp_or
  split
  · exact hy
  · exact hx
theorem is3_nc (a b : Nat) : is3 (sp_nc a b) := by
  unfold sp_nc is3
  split
  · exact Or.inl rfl
  · split
    · exact Or.inr (Or.inl rfl)
    · exact Or.inr (Or.inr rfl)
theorem is3_ic (a b : Int) : is3 (sp_ic a b) := by
  unfold sp_ic is3
  split
  · exact Or.inl rfl
  · split
    · exact Or.inr (Or.inl rfl)
    · exact Or.inr (Or.inr rfl)
theorem is3_bc : ∀ a b : List Nat, is3 (sp_bc a b)
  | [], [] => Or.inr (Or.inl rfl)
  | [], _ :: _ => Or.inl rfl
  | _ :: _, [] => Or.inr (Or.inr rfl)
  | _ :: x, _ :: y => is3_or (is3_nc _ _) (is3_bc x y)
theorem is3_fc : ∀ a b : sp_F, is3 (sp_fc a b)
  | .leaf, .leaf => Or.inr (Or.inl rfl)
  | .leaf, .inner _ _ _ _ _ => Or.inl rfl
  | .inner _ _ _ _ _, .leaf => Or.inr (Or.inr rfl)
  | .inner _ b _ c r, .inner _ b2 _ c2 r2 => by
    have h1 := is3_fc c c2
    have h2 := is3_fc r r2
    unfold sp_fc
    exact is3_or (is3_nc _ _) (is3_or (is3_bc _ _) (is3_or (is3_or (is3_ic _ _) (is3_or (is3_bc _ _) h1)) h2))
theorem is3_vc (v w : sp_V) : is3 (sp_vc v w) := is3_or (is3_nc _ _) (is3_or (is3_ic _ _) (is3_or (is3_bc _ _) (is3_fc _ _)))
abbrev sp_I := sp_V × Nat
/-- one before another, or the same -/
def sp_lq (a b : sp_I) : Prop := sp_vc a.1 b.1 ≤ 0
def sp_sm (a b : sp_I) : Bool := decide (sp_vc a.1 b.1 = 0)
theorem sp_lq_def {a b : sp_I} : sp_lq a b ↔ sp_vc a.1 b.1 = -1 ∨ sp_vc a.1 b.1 = 0 := by
  unfold sp_lq
  rcases is3_vc a.1 b.1 with h | h | h <;> rw [h] <;> decide
theorem sp_nlq {a b : sp_I} (h : ¬ sp_lq a b) : sp_vc a.1 b.1 = 1 := by
  rw [sp_lq_def] at h
  rcases is3_vc a.1 b.1 with z | z | z
  · exact absurd (Or.inl z) h
  · exact absurd (Or.inr z) h
  · exact z
theorem sp_lq_tr {a b c : sp_I} (h1 : sp_lq a b) (h2 : sp_lq b c) : sp_lq a c := by
  obtain ⟨t1, t2, t3⟩ := sp_vc_tr a.1 b.1 c.1
  rw [sp_lq_def] at h1 h2 ⊢
  rcases h1 with h1 | h1
  · rcases h2 with h2 | h2
    · exact Or.inl ((t3 (h1.trans h2.symm)).trans h1)
    · exact Or.inl ((t2 h2).trans h1)
  · rw [t1 h1]
    exact h2
theorem sp_lq_rf (a : sp_I) : sp_lq a a := by
  have h := sp_vc_neg a.1 a.1
  rw [sp_lq_def]
  rcases is3_vc a.1 a.1 with z | z | z
  · exact Or.inl z
  · exact Or.inr z
  · rw [z] at h
    exact absurd h (by decide)
theorem sp_sm_rf (a : sp_I) : sp_sm a a = true := by
  have h := sp_vc_neg a.1 a.1
  unfold sp_sm
  rcases is3_vc a.1 a.1 with z | z | z
  · rw [z] at h; exact absurd h (by decide)
  · exact decide_eq_true z
  · rw [z] at h; exact absurd h (by decide)
theorem sp_sm_of {a b : sp_I} (h1 : sp_lq a b) (h2 : sp_lq b a) : sp_sm a b = true := by
  have h := sp_vc_neg a.1 b.1
  rw [sp_lq_def] at h1 h2
  unfold sp_sm
  rcases h1 with z | z
  · rw [z] at h
    rcases h2 with y | y <;> rw [y] at h <;> exact absurd h (by decide)
  · exact decide_eq_true z
theorem sp_sm_lq {a b : sp_I} (h : sp_sm a b = true) : sp_lq a b := sp_lq_def.mpr (Or.inr (of_decide_eq_true h))
theorem sp_sm_sym {a b : sp_I} (h : sp_sm a b = true) : sp_sm b a = true := by
  have h' : sp_vc a.1 b.1 = 0 := of_decide_eq_true h
  have := sp_vc_neg a.1 b.1
  rw [h'] at this
  exact decide_eq_true (this.trans (by decide))
/-- a strictly greater one is not the same as what is before -/
theorem sp_gt_ns {a b c : sp_I} (h1 : sp_vc b.1 a.1 = -1) (h2 : sp_lq a c) : sp_vc b.1 c.1 = -1 := by
  obtain ⟨t1, t2, t3⟩ := sp_vc_tr b.1 a.1 c.1
  rw [sp_lq_def] at h2
  rcases h2 with h2 | h2
  · exact (t3 (h1.trans h2.symm)).trans h1
  · exact (t2 h2).trans h1
def sp_so : sp_X → Prop := List.Pairwise sp_lq
/-- the same ones, those that are the same in one order -/
def sp_eq (X Y : sp_X) : Prop := ∀ v : sp_I, Y.filter (sp_sm v) = X.filter (sp_sm v)
theorem sp_eq.app {X X' Y Y' : sp_X} (h : sp_eq X X') (h' : sp_eq Y Y') : sp_eq (X ++ Y) (X' ++ Y') := fun v => by rw [List.filter_append, List.filter_append, h v, h' v]
theorem sp_eq.rf (X : sp_X) : sp_eq X X := fun _ => rfl
theorem sp_eq.tr {X Y W : sp_X} (h : sp_eq X Y) (h' : sp_eq Y W) : sp_eq X W := fun v => (h' v).trans (h v)
theorem sp_eq.sy {X Y : sp_X} (h : sp_eq X Y) : sp_eq Y X := fun v => (h v).symm
theorem sp_eq.mem {X Y : sp_X} (h : sp_eq X Y) {a : sp_I} (ha : a ∈ Y) : a ∈ X := by
  have h1 : a ∈ Y.filter (sp_sm a) := List.mem_filter.mpr ⟨ha, sp_sm_rf a⟩
  rw [h a] at h1
  exact (List.mem_filter.mp h1).1
/-- sorted ones that are the same so are equal -/
theorem sp_so_eq : ∀ {X Y : sp_X}, sp_so X → sp_so Y → sp_eq X Y → X = Y
  | [], [], _, _, _ => rfl
  | [], y :: Y, _, _, h => by cases h.mem (List.mem_cons_self)
  | x :: X, [], _, _, h => by cases h.sy.mem (List.mem_cons_self)
  | x :: X, y :: Y, h1, h2, h => by
    have m1 : y ∈ x :: X := h.mem List.mem_cons_self
    have m2 : x ∈ y :: Y := h.sy.mem List.mem_cons_self
    have l1 : sp_lq x y := by
      rcases List.mem_cons.mp m1 with e | e
      · rw [e]; exact sp_lq_rf x
      · exact (List.pairwise_cons.mp h1).1 y e
    have l2 : sp_lq y x := by
      rcases List.mem_cons.mp m2 with e | e
      · rw [e]; exact sp_lq_rf y
      · exact (List.pairwise_cons.mp h2).1 x e
    have e1 := h x
    rw [List.filter_cons_of_pos (sp_sm_rf x), List.filter_cons_of_pos (sp_sm_of l1 l2)] at e1
    have exy : y = x := (List.cons.inj e1).1
    subst exy
    have ht : sp_eq X Y := by
      intro v
      have e2 := h v
      by_cases q : sp_sm v y = true
      · rw [List.filter_cons_of_pos q, List.filter_cons_of_pos q] at e2
        exact (List.cons.inj e2).2
      · rw [List.filter_cons_of_neg q, List.filter_cons_of_neg q] at e2
        exact e2
    rw [sp_so_eq (List.pairwise_cons.mp h1).2 (List.pairwise_cons.mp h2).2 ht]
/-- two runs into one: a right one only where it is less -/
def sp_mrg : Nat → sp_X → sp_X → sp_X
  | 0, A, B => A ++ B
  | _ + 1, [], B => B
  | _ + 1, A, [] => A
  | n + 1, a :: A, b :: B => if sp_vc b.1 a.1 < 0 then b :: sp_mrg n (a :: A) B else a :: sp_mrg n A (b :: B)
theorem sp_mrg_eq : ∀ (n : Nat) (A B : sp_X), sp_so A → sp_eq (A ++ B) (sp_mrg n A B)
  | 0, _, _, _ => sp_eq.rf _
  | _ + 1, [], _, _ => sp_eq.rf _
  | _ + 1, _ :: _, [], _ => by rw [List.append_nil]; exact sp_eq.rf _
  | n + 1, a :: A, b :: B, hA => by
    unfold sp_mrg
    by_cases q : sp_vc b.1 a.1 < 0
    · rw [if_pos q]
      have q1 : sp_vc b.1 a.1 = -1 := by
        rcases is3_vc b.1 a.1 with z | z | z <;> rw [z] at q ⊢ <;> exact absurd q (by decide)
      have ih := sp_mrg_eq n (a :: A) B hA
      intro v
      have e := ih v
      have lt : ∀ c ∈ a :: A, sp_vc b.1 c.1 = -1 := by
        intro c hc
        rcases List.mem_cons.mp hc with z | z
        · rw [z]; exact q1
        · exact sp_gt_ns q1 ((List.pairwise_cons.mp hA).1 c z)
      by_cases w : sp_sm v b = true
      · have hn : (a :: A).filter (sp_sm v) = [] := by
          rw [List.filter_eq_nil_iff]
          intro c hc z
          have h1 := sp_lq_tr (sp_sm_lq (sp_sm_sym z)) (sp_sm_lq w)
          have h2 := lt c hc
          have h3 := sp_vc_neg b.1 c.1
          rw [h2] at h3
          rw [sp_lq_def, h3] at h1
          rcases h1 with y | y <;> exact absurd y (by decide)
        rw [List.filter_cons_of_pos w, e, List.filter_append, List.filter_append, hn, List.filter_cons_of_pos w]
        rfl
      · rw [List.filter_cons_of_neg w, e, List.filter_append, List.filter_append, List.filter_cons_of_neg w]
    · rw [if_neg q]
      have ih := sp_mrg_eq n A (b :: B) (List.pairwise_cons.mp hA).2
      exact sp_eq.app (X := [a]) (X' := [a]) (sp_eq.rf _) ih
theorem sp_mrg_so : ∀ (n : Nat) (A B : sp_X), A.length + B.length ≤ n → sp_so A → sp_so B → sp_so (sp_mrg n A B)
  | 0, A, B, hl, hA, hB => by
    have : A = [] := List.eq_nil_of_length_eq_zero (by omega)
    subst this
    exact hB
  | _ + 1, [], _, _, _, hB => hB
  | _ + 1, _ :: _, [], _, hA, _ => hA
  | n + 1, a :: A, b :: B, hl, hA, hB => by
    simp only [List.length_cons] at hl
    unfold sp_mrg
    by_cases q : sp_vc b.1 a.1 < 0
    · rw [if_pos q]
      have ih := sp_mrg_so n (a :: A) B (by simp; omega) hA (List.pairwise_cons.mp hB).2
      refine List.pairwise_cons.mpr ⟨fun c hc => ?_, ih⟩
      have hc' := (sp_mrg_eq n (a :: A) B hA).mem hc
      have hba : sp_lq b a := by
        rw [sp_lq_def]
        rcases is3_vc b.1 a.1 with z | z | z
        · exact Or.inl z
        · exact Or.inr z
        · rw [z] at q; exact absurd q (by decide)
      rcases List.mem_append.mp hc' with z | z
      · rcases List.mem_cons.mp z with y | y
        · rw [y]; exact hba
        · exact sp_lq_tr hba ((List.pairwise_cons.mp hA).1 c y)
      · exact (List.pairwise_cons.mp hB).1 c z
    · rw [if_neg q]
      have ih := sp_mrg_so n A (b :: B) (by simp; omega) (List.pairwise_cons.mp hA).2 hB
      refine List.pairwise_cons.mpr ⟨fun c hc => ?_, ih⟩
      have hc' := (sp_mrg_eq n A (b :: B) (List.pairwise_cons.mp hA).2).mem hc
      have hab : sp_lq a b := by
        have h := sp_vc_neg b.1 a.1
        rw [sp_lq_def]
        rcases is3_vc b.1 a.1 with z | z | z <;> rw [z] at h
        · rw [z] at q; exact absurd (by decide) q
        · exact Or.inr (h.trans (by decide))
        · exact Or.inl (h.trans (by decide))
      rcases List.mem_append.mp hc' with z | z
      · exact (List.pairwise_cons.mp hA).1 c z
      · rcases List.mem_cons.mp z with y | y
        · rw [y]; exact hab
        · exact sp_lq_tr hab ((List.pairwise_cons.mp hB).1 c y)
theorem sp_mrg_len : ∀ (n : Nat) (A B : sp_X), (sp_mrg n A B).length = A.length + B.length
  | 0, _, _ => List.length_append
  | _ + 1, [], B => by simp [sp_mrg]
  | _ + 1, _ :: _, [] => by simp [sp_mrg]
  | n + 1, a :: A, b :: B => by
    unfold sp_mrg
    split
    · have := sp_mrg_len n (a :: A) B
      simp only [List.length_cons] at this ⊢
      omega
    · have := sp_mrg_len n A (b :: B)
      simp only [List.length_cons] at this ⊢
      omega
end
section
/-! merging two runs of a list -/
abbrev cA3 (f : Nat → Option Nat) : am_C := .inl (3, 500, .inr (.inr (.inr (.inr f))))
abbrev cA0 (f : Nat → Int32) : am_C := .inl (0, 500, .inl f)
abbrev cLs (va oa sa pa n : Nat) (ov : Bool) : am_C := .inr (2, [.ref va, .ref oa, .ref sa, .ref pa, .int (nI n), .int (bI ov)])
def itm (Z : Nat → Prop) (h0 : Nat → Option am_C) (fv : Nat → Option Nat) (fo : Nat → Int32) (i : Nat) (x : sp_I) : Prop := ∃ a, fv i = some a ∧ vlz Z h0 a x.1 ∧ fo i = nI x.2
def fw5 (g : Nat × Nat) (Z : Nat → Prop) (w va oa sa pa : Nat) : Prop := fwk g Z w va oa ∧ g.1 ≤ sa ∧ g.1 ≤ pa ∧ sa ≠ w ∧ sa ≠ va ∧ sa ≠ oa ∧ pa ≠ w ∧ pa ≠ va ∧ pa ≠ oa ∧ pa ≠ sa ∧ ¬ Z sa ∧ ¬ Z pa
def mst (σ0 σ : am_H) (va oa sa pa : Nat) (fv : Nat → Option Nat) (fo : Nat → Int32) (fs : Nat → Option Nat) (fp : Nat → Int32) : Prop := (∀ a, a ≠ va → a ≠ oa → a ≠ sa → a ≠ pa → σ.1 a = σ0.1 a) ∧ σ.2 = σ0.2 ∧ σ.1 va = some (cA3 fv) ∧ σ.1 oa = some (cA0 fo) ∧ σ.1 sa = some (cA3 fs) ∧ σ.1 pa = some (cA0 fp)
section P44a
variable {g : Nat × Nat} {Z : Nat → Prop} {σ0 σ : am_H} {w va oa sa pa : Nat} {fv : Nat → Option Nat} {fo : Nat → Int32} {fs : Nat → Option Nat} {fp : Nat → Int32}
theorem mst.sz (h : mst σ0 σ va oa sa pa fv fo fs fp) (hf : fw5 g Z w va oa sa pa) : ∀ a, Z a → σ.1 a = σ0.1 a := by
  obtain ⟨⟨-, -, -, -, -, -, -, z1, z2⟩, -, -, -, -, -, -, -, -, -, z3, z4⟩ := hf
  exact fun a ha => h.1 a (fun q => z1 (q ▸ ha)) (fun q => z2 (q ▸ ha)) (fun q => z3 (q ▸ ha)) (fun q => z4 (q ▸ ha))
theorem mst.sw (h : mst σ0 σ va oa sa pa fv fo fs fp) (hf : fw5 g Z w va oa sa pa) : σ.1 w = σ0.1 w := by
  obtain ⟨⟨-, -, -, n1, n2, -, -⟩, -, -, n3, -, -, n4, -⟩ := hf
  exact h.1 w n1 n2 (Ne.symm n3) (Ne.symm n4)
theorem mst.sva (h : mst σ0 σ va oa sa pa fv fo fs fp) (hf : fw5 g Z w va oa sa pa) (f : Nat → Option Nat) : mst σ0 (am_set σ va (cA3 f)) va oa sa pa f fo fs fp := by
  obtain ⟨⟨-, -, -, -, -, n0, -⟩, -, -, -, n1, n2, -, n3, n4, n5, -⟩ := hf
  obtain ⟨a1, a2, a3, a4, a5, a6⟩ := h
  exact ⟨fun a h1 h2 h3 h4 => (am_set_ne _ _ h1).trans (a1 a h1 h2 h3 h4), a2, am_set_same _ _ _, (am_set_ne _ _ (Ne.symm n0)).trans a4, (am_set_ne _ _ n1).trans a5, (am_set_ne _ _ n3).trans a6⟩
theorem mst.soa (h : mst σ0 σ va oa sa pa fv fo fs fp) (hf : fw5 g Z w va oa sa pa) (f : Nat → Int32) : mst σ0 (am_set σ oa (cA0 f)) va oa sa pa fv f fs fp := by
  obtain ⟨⟨-, -, -, -, -, n0, -⟩, -, -, -, n1, n2, -, n3, n4, n5, -⟩ := hf
  obtain ⟨a1, a2, a3, a4, a5, a6⟩ := h
  exact ⟨fun a h1 h2 h3 h4 => (am_set_ne _ _ h2).trans (a1 a h1 h2 h3 h4), a2, (am_set_ne _ _ n0).trans a3, am_set_same _ _ _, (am_set_ne _ _ n2).trans a5, (am_set_ne _ _ n4).trans a6⟩
theorem mst.ssa (h : mst σ0 σ va oa sa pa fv fo fs fp) (hf : fw5 g Z w va oa sa pa) (f : Nat → Option Nat) : mst σ0 (am_set σ sa (cA3 f)) va oa sa pa fv fo f fp := by
  obtain ⟨⟨-, -, -, -, -, n0, -⟩, -, -, -, n1, n2, -, n3, n4, n5, -⟩ := hf
  obtain ⟨a1, a2, a3, a4, a5, a6⟩ := h
  exact ⟨fun a h1 h2 h3 h4 => (am_set_ne _ _ h3).trans (a1 a h1 h2 h3 h4), a2, (am_set_ne _ _ (Ne.symm n1)).trans a3, (am_set_ne _ _ (Ne.symm n2)).trans a4, am_set_same _ _ _, (am_set_ne _ _ n5).trans a6⟩
theorem mst.spa (h : mst σ0 σ va oa sa pa fv fo fs fp) (hf : fw5 g Z w va oa sa pa) (f : Nat → Int32) : mst σ0 (am_set σ pa (cA0 f)) va oa sa pa fv fo fs f := by
  obtain ⟨⟨-, -, -, -, -, n0, -⟩, -, -, -, n1, n2, -, n3, n4, n5, -⟩ := hf
  obtain ⟨a1, a2, a3, a4, a5, a6⟩ := h
  exact ⟨fun a h1 h2 h3 h4 => (am_set_ne _ _ h4).trans (a1 a h1 h2 h3 h4), a2, (am_set_ne _ _ (Ne.symm n3)).trans a3, (am_set_ne _ _ (Ne.symm n4)).trans a4, (am_set_ne _ _ (Ne.symm n5)).trans a5, am_set_same _ _ _⟩
end P44a
theorem sp_mrg_nil : ∀ (n : Nat) (A : sp_X), sp_mrg n A [] = A
  | 0, _ => List.append_nil _
  | _ + 1, [] => rfl
  | _ + 1, _ :: _ => rfl
theorem va_up_s {α : Type} {f : Nat → α} {k : Nat} {x : α} : va_up f k x k = x := if_pos rfl
theorem va_up_n {α : Type} {f : Nat → α} {k j : Nat} {x : α} (h : j ≠ k) : va_up f k x j = f j := if_neg h
theorem itm.up {Z : Nat → Prop} {h0 : Nat → Option am_C} {fv : Nat → Option Nat} {fo : Nat → Int32} {i k : Nat} {x : sp_I} {y : Option Nat} {z : Int32} (h : itm Z h0 fv fo i x) (hk : i ≠ k) : itm Z h0 (va_up fv k y) (upd fo k z) i x := by
  obtain ⟨a, h1, h2, h3⟩ := h
  exact ⟨a, (va_up_n hk).trans h1, h2, (pk_un hk).trans h3⟩
section P44
variable {g : Nat × Nat} {d : Nat} {σ : am_H} {Q : Option Value → am_H → Prop}
set_option maxHeartbeats 4000000 in
/-- mergeRuns: the merging -/
theorem c_mrgL {Z : Nat → Prop} {σ0 : am_H} {w va oa sa pa N low mid high lefts : Nat} {ov : Bool} (hd : 53 ≤ d) (hf : fw5 g Z w va oa sa pa) (hw : σ0.1 w = some (cLs va oa sa pa N ov)) (hN : high ≤ 500) (hlm : lefts ≤ 500) {fv0 : Nat → Option Nat} {fo0 : Nat → Int32} : ∀ (n : Nat) (A B D : sp_X) (σ : am_H) (fv : Nat → Option Nat) (fo : Nat → Int32) (fs : Nat → Option Nat) (fp : Nat → Int32) (le ri to : Nat), A.length + B.length ≤ n → le + A.length = lefts → ri + B.length = high → to + A.length = ri → low + D.length = to → mst σ0 σ va oa sa pa fv fo fs fp → (∀ x ∈ A, sp_hgt x.1.2 ≤ 16) → (∀ x ∈ B, sp_hgt x.1.2 ≤ 16) → (∀ i x, D[i]? = some x → itm Z σ0.1 fv fo (low + i) x) → (∀ i x, A[i]? = some x → itm Z σ0.1 fs fp (le + i) x) → (∀ i x, B[i]? = some x → itm Z σ0.1 fv fo (ri + i) x) → (∀ i, i < low ∨ high ≤ i → fv i = fv0 i ∧ fo i = fo0 i) →
    (∀ (σ' : am_H) (fv' : Nat → Option Nat) (fo' : Nat → Int32) (fs' : Nat → Option Nat) (fp' : Nat → Int32), mst σ0 σ' va oa sa pa fv' fo' fs' fp' → (∀ i x, (D ++ sp_mrg n A B)[i]? = some x → itm Z σ0.1 fv' fo' (low + i) x) → (∀ i, i < low ∨ high ≤ i → fv' i = fv0 i ∧ fo' i = fo0 i) → Q none σ') →
    AW g (d + 1) 52 (82, [some (.ref w), some (.int (nI low)), some (.int (nI mid)), some (.int (nI high)), some (.int (nI lefts)), some (.int (nI le)), some (.int (nI ri)), some (.int (nI to))], []) σ Q := by
  intro n
  induction n with
  | zero =>
    intro A B D σ fv fo fs fp le ri to hl e1 e2 e3 e4 hm hA hB iD iA iB io hQ
    have hA0 : A = [] := List.eq_nil_of_length_eq_zero (by omega)
    have hB0 : B = [] := List.eq_nil_of_length_eq_zero (by omega)
    subst hA0
    subst hB0
    simp only [List.length_nil] at e1 e2 e3
    refine aw_run 2 (F' := (85, [some (.ref w), some (.int (nI low)), some (.int (nI mid)), some (.int (nI high)), some (.int (nI lefts)), some (.int (nI le)), some (.int (nI ri)), some (.int (nI to))], [.int (nI high), .int (nI to)])) rfl ?_
    refine aw_cge rfl (fun _ => ?_) (fun z => absurd ((nI_leI (by omega) (by omega)).mpr (by omega)) z)
    refine aw_vret rfl rfl (hQ σ fv fo fs fp hm (fun i x hx => ?_) io)
    simp only [sp_mrg, List.append_nil] at hx
    exact iD i x hx
  | succ n ih =>
    intro A B D σ fv fo fs fp le ri to hl e1 e2 e3 e4 hm hA hB iD iA iB io hQ
    have hwc := (hm.sw hf).trans hw
    have hZ := hm.sz hf
    have hm' := hm
    obtain ⟨m1, m2, m3, m4, m5, m6⟩ := hm'
    have hf' := hf
    obtain ⟨⟨g1, g2, g3, n1, n2, n3, z1, z2, z3⟩, g4, g5, -⟩ := hf'
    refine aw_run 2 (F' := (85, [some (.ref w), some (.int (nI low)), some (.int (nI mid)), some (.int (nI high)), some (.int (nI lefts)), some (.int (nI le)), some (.int (nI ri)), some (.int (nI to))], [.int (nI high), .int (nI to)])) rfl ?_
    cases A with
    | nil =>
      simp only [List.length_nil] at e1 e3
      have fin : Q none σ := by
        refine hQ σ fv fo fs fp hm (fun i x hx => ?_) io
        have hx' : (D ++ B)[i]? = some x := by simpa only [sp_mrg] using hx
        rw [List.getElem?_append] at hx'
        split at hx'
        · exact iD i x hx'
        · have := iB _ x hx'
          rw [show ri + (i - D.length) = low + i by omega] at this
          exact this
      refine aw_cge rfl (fun _ => aw_vret rfl rfl fin) (fun _ => ?_)
      refine aw_run 2 (F' := (92, [some (.ref w), some (.int (nI low)), some (.int (nI mid)), some (.int (nI high)), some (.int (nI lefts)), some (.int (nI le)), some (.int (nI ri)), some (.int (nI to))], [.int (nI lefts), .int (nI le)])) rfl ?_
      refine aw_cge rfl (fun _ => aw_vret rfl rfl fin) (fun z => absurd ((nI_leI (by omega) (by omega)).mpr (by omega)) z)
    | cons a A =>
      simp only [List.length_cons] at e1 e3 hl
      obtain ⟨aa, ha1, ha2, ha3⟩ := iA 0 a rfl
      rw [Nat.add_zero] at ha1 ha3
      have ha2' := ha2.kept hZ (fun _ z => z)
      obtain ⟨a0, b1, b2, b3, b4, b5, b6, b7, hac⟩ := ha2'.cell
      refine aw_cge rfl (fun z => absurd ((nI_leI (by omega) (by omega)).mp z) (by omega)) (fun _ => ?_)
      refine aw_run 2 (F' := (92, [some (.ref w), some (.int (nI low)), some (.int (nI mid)), some (.int (nI high)), some (.int (nI lefts)), some (.int (nI le)), some (.int (nI ri)), some (.int (nI to))], [.int (nI lefts), .int (nI le)])) rfl ?_
      refine aw_cge rfl (fun z => absurd ((nI_leI (by omega) (by omega)).mp z) (by omega)) (fun _ => ?_)
      refine aw_run 2 (F' := (98, [some (.ref w), some (.int (nI low)), some (.int (nI mid)), some (.int (nI high)), some (.int (nI lefts)), some (.int (nI le)), some (.int (nI ri)), some (.int (nI to))], [.int (nI high), .int (nI ri)])) rfl ?_
      -- the left one is taken
      have left : sp_mrg (n + 1) (a :: A) B = a :: sp_mrg n A B → AW g (d + 1) 52 (156, [some (.ref w), some (.int (nI low)), some (.int (nI mid)), some (.int (nI high)), some (.int (nI lefts)), some (.int (nI le)), some (.int (nI ri)), some (.int (nI to))], []) σ Q := by
        intro hmg
        refine aw_run 1 (F' := (157, [some (.ref w), some (.int (nI low)), some (.int (nI mid)), some (.int (nI high)), some (.int (nI lefts)), some (.int (nI le)), some (.int (nI ri)), some (.int (nI to))], [.ref w])) rfl ?_
        refine aw_get rfl hwc rfl ?_
        refine aw_run 2 (F' := (163, [some (.ref w), some (.int (nI low)), some (.int (nI mid)), some (.int (nI high)), some (.int (nI lefts)), some (.int (nI le)), some (.int (nI ri)), some (.int (nI to))], [.ref w, .int (nI to), .ref va])) rfl ?_
        refine aw_get rfl hwc rfl ?_
        refine aw_run 1 (F' := (168, [some (.ref w), some (.int (nI low)), some (.int (nI mid)), some (.int (nI high)), some (.int (nI lefts)), some (.int (nI le)), some (.int (nI ri)), some (.int (nI to))], [.int (nI le), .ref sa, .int (nI to), .ref va])) rfl ?_
        refine aw_aald rfl (by decide) m5 (vp_in_nI (by omega) (by omega)) ?_
        rw [nI_clamp (by omega), ha1]
        refine aw_aast rfl g2 m3 rfl hac (vp_in_nI (by omega) (by omega)) ?_
        rw [nI_clamp (by omega)]
        have hm1 := hm.sva hf (va_up fv to (some aa))
        generalize am_set σ va (cA3 (va_up fv to (some aa))) = σ1 at hm1 ⊢
        have hwc1 := (hm1.sw hf).trans hw
        have hm1' := hm1
        obtain ⟨p1, p2, p3, p4, p5, p6⟩ := hm1'
        refine aw_run 1 (F' := (171, [some (.ref w), some (.int (nI low)), some (.int (nI mid)), some (.int (nI high)), some (.int (nI lefts)), some (.int (nI le)), some (.int (nI ri)), some (.int (nI to))], [.ref w])) rfl ?_
        refine aw_get rfl hwc1 rfl ?_
        refine aw_run 2 (F' := (177, [some (.ref w), some (.int (nI low)), some (.int (nI mid)), some (.int (nI high)), some (.int (nI lefts)), some (.int (nI le)), some (.int (nI ri)), some (.int (nI to))], [.ref w, .int (nI to), .ref oa])) rfl ?_
        refine aw_get rfl hwc1 rfl ?_
        refine aw_run 1 (F' := (182, [some (.ref w), some (.int (nI low)), some (.int (nI mid)), some (.int (nI high)), some (.int (nI lefts)), some (.int (nI le)), some (.int (nI ri)), some (.int (nI to))], [.int (nI le), .ref pa, .int (nI to), .ref oa])) rfl ?_
        refine aw_iald rfl p6 (vp_in_nI (by omega) (by omega)) ?_
        rw [nI_clamp (by omega), ha3]
        refine aw_iast rfl g3 p4 (vp_in_nI (by omega) (by omega)) ?_
        rw [nI_clamp (by omega)]
        have hm2 := hm1.soa hf (upd fo to (nI a.2))
        generalize am_set σ1 oa (cA0 (upd fo to (nI a.2))) = σ2 at hm2 ⊢
        refine aw_run 3 (F' := (82, [some (.ref w), some (.int (nI low)), some (.int (nI mid)), some (.int (nI high)), some (.int (nI lefts)), some (.int (nI le + 1)), some (.int (nI ri)), some (.int (nI to + 1))], [])) rfl ?_
        rw [nI_1, nI_1]
        refine ih A B (D ++ [a]) σ2 _ _ fs fp (le + 1) ri (to + 1) (by omega) (by omega) e2 (by omega) (by simp; omega) hm2 (fun x hx => hA x (List.mem_cons_of_mem _ hx)) hB (fun i x hx => ?_) (fun i x hx => ?_) (fun i x hx => ?_) (fun i hi => ?_) (fun σ' fv' fo' fs' fp' h1 h2 h3 => hQ σ' fv' fo' fs' fp' h1 (fun i x hx => h2 i x ?_) h3)
        · rw [List.getElem?_append] at hx
          split at hx
          · exact (iD i x hx).up (by omega)
          · have hi0 : i - D.length = 0 := by
              cases hk : i - D.length with
              | zero => rfl
              | succ k => rw [hk] at hx; simp at hx
            rw [hi0] at hx
            simp at hx
            subst hx
            have hie : low + i = to := by omega
            rw [hie]
            exact ⟨aa, va_up_s, ha2, pk_us⟩
        · have := iA (i + 1) x (by simpa using hx)
          rw [show le + (i + 1) = le + 1 + i by omega] at this
          exact this
        · exact (iB i x hx).up (by omega)
        · have := io i hi
          rw [va_up_n (by omega), pk_un (by omega)]
          exact this
        · rw [hmg] at hx
          rw [List.append_assoc]
          exact hx
      cases B with
      | nil =>
        simp only [List.length_nil] at e2
        refine aw_cge rfl (fun _ => ?_) (fun z => absurd ((nI_leI (by omega) (by omega)).mpr (by omega)) z)
        refine left ?_
        rw [sp_mrg_nil, sp_mrg_nil]
      | cons b B =>
        simp only [List.length_cons] at e2 hl
        obtain ⟨bb, hb1, hb2, hb3⟩ := iB 0 b rfl
        rw [Nat.add_zero] at hb1 hb3
        have hb2' := hb2.kept hZ (fun _ z => z)
        obtain ⟨a0, c1, c2, c3, c4, c5, c6, c7, hbc⟩ := hb2'.cell
        refine aw_cge rfl (fun z => absurd ((nI_leI (by omega) (by omega)).mp z) (by omega)) (fun _ => ?_)
        refine aw_run 1 (F' := (102, [some (.ref w), some (.int (nI low)), some (.int (nI mid)), some (.int (nI high)), some (.int (nI lefts)), some (.int (nI le)), some (.int (nI ri)), some (.int (nI to))], [.ref w])) rfl ?_
        refine aw_get rfl hwc rfl ?_
        refine aw_run 1 (F' := (107, [some (.ref w), some (.int (nI low)), some (.int (nI mid)), some (.int (nI high)), some (.int (nI lefts)), some (.int (nI le)), some (.int (nI ri)), some (.int (nI to))], [.int (nI ri), .ref va])) rfl ?_
        refine aw_aald rfl (by decide) m3 (vp_in_nI (by omega) (by omega)) ?_
        rw [nI_clamp (by omega), hb1]
        refine aw_run 1 (F' := (109, [some (.ref w), some (.int (nI low)), some (.int (nI mid)), some (.int (nI high)), some (.int (nI lefts)), some (.int (nI le)), some (.int (nI ri)), some (.int (nI to))], [.ref w, .ref bb])) rfl ?_
        refine aw_get rfl hwc rfl ?_
        refine aw_run 1 (F' := (114, [some (.ref w), some (.int (nI low)), some (.int (nI mid)), some (.int (nI high)), some (.int (nI lefts)), some (.int (nI le)), some (.int (nI ri)), some (.int (nI to))], [.int (nI le), .ref sa, .ref bb])) rfl ?_
        refine aw_aald rfl (by decide) m5 (vp_in_nI (by omega) (by omega)) ?_
        rw [nI_clamp (by omega), ha1]
        refine aw_run 1 (F' := (116, [some (.ref w), some (.int (nI low)), some (.int (nI mid)), some (.int (nI high)), some (.int (nI lefts)), some (.int (nI le)), some (.int (nI ri)), some (.int (nI to))], [.int (nI 1), .ref aa, .ref bb])) rfl ?_
        refine aw_s [.ref bb, .ref aa, .int (nI 1)] [] rfl ⟨by decide, by decide⟩ rfl rfl (Nat.le_of_ble_eq_true rfl) (Nat.le_of_ble_eq_true rfl) ?_
        have hhb := hB b List.mem_cons_self
        refine c_ofValues hb2'.vl ha2'.vl (by omega) (by omega) ?_
        refine aw_zge rfl (fun z => ?_) (fun z => ?_)
        · refine left ?_
          rw [sp_mrg, if_neg (fun y => Int32.lt_irrefl (Int32.lt_of_lt_of_le y z))]
        · have z' : sp_vc b.1 a.1 < 0 := Int32.not_le.mp z
          have hmg : sp_mrg (n + 1) (a :: A) (b :: B) = b :: sp_mrg n (a :: A) B := by rw [sp_mrg, if_pos z']
          refine aw_run 1 (F' := (123, [some (.ref w), some (.int (nI low)), some (.int (nI mid)), some (.int (nI high)), some (.int (nI lefts)), some (.int (nI le)), some (.int (nI ri)), some (.int (nI to))], [.ref w])) rfl ?_
          refine aw_get rfl hwc rfl ?_
          refine aw_run 2 (F' := (129, [some (.ref w), some (.int (nI low)), some (.int (nI mid)), some (.int (nI high)), some (.int (nI lefts)), some (.int (nI le)), some (.int (nI ri)), some (.int (nI to))], [.ref w, .int (nI to), .ref va])) rfl ?_
          refine aw_get rfl hwc rfl ?_
          refine aw_run 1 (F' := (134, [some (.ref w), some (.int (nI low)), some (.int (nI mid)), some (.int (nI high)), some (.int (nI lefts)), some (.int (nI le)), some (.int (nI ri)), some (.int (nI to))], [.int (nI ri), .ref va, .int (nI to), .ref va])) rfl ?_
          refine aw_aald rfl (by decide) m3 (vp_in_nI (by omega) (by omega)) ?_
          rw [nI_clamp (by omega), hb1]
          refine aw_aast rfl g2 m3 rfl hbc (vp_in_nI (by omega) (by omega)) ?_
          rw [nI_clamp (by omega)]
          have hm1 := hm.sva hf (va_up fv to (some bb))
          generalize am_set σ va (cA3 (va_up fv to (some bb))) = σ1 at hm1 ⊢
          have hwc1 := (hm1.sw hf).trans hw
          have hm1' := hm1
          obtain ⟨p1, p2, p3, p4, p5, p6⟩ := hm1'
          refine aw_run 1 (F' := (137, [some (.ref w), some (.int (nI low)), some (.int (nI mid)), some (.int (nI high)), some (.int (nI lefts)), some (.int (nI le)), some (.int (nI ri)), some (.int (nI to))], [.ref w])) rfl ?_
          refine aw_get rfl hwc1 rfl ?_
          refine aw_run 2 (F' := (143, [some (.ref w), some (.int (nI low)), some (.int (nI mid)), some (.int (nI high)), some (.int (nI lefts)), some (.int (nI le)), some (.int (nI ri)), some (.int (nI to))], [.ref w, .int (nI to), .ref oa])) rfl ?_
          refine aw_get rfl hwc1 rfl ?_
          refine aw_run 1 (F' := (148, [some (.ref w), some (.int (nI low)), some (.int (nI mid)), some (.int (nI high)), some (.int (nI lefts)), some (.int (nI le)), some (.int (nI ri)), some (.int (nI to))], [.int (nI ri), .ref oa, .int (nI to), .ref oa])) rfl ?_
          refine aw_iald rfl p4 (vp_in_nI (by omega) (by omega)) ?_
          rw [nI_clamp (by omega), hb3]
          refine aw_iast rfl g3 p4 (vp_in_nI (by omega) (by omega)) ?_
          rw [nI_clamp (by omega)]
          have hm2 := hm1.soa hf (upd fo to (nI b.2))
          generalize am_set σ1 oa (cA0 (upd fo to (nI b.2))) = σ2 at hm2 ⊢
          refine aw_run 4 (F' := (82, [some (.ref w), some (.int (nI low)), some (.int (nI mid)), some (.int (nI high)), some (.int (nI lefts)), some (.int (nI le)), some (.int (nI ri + 1)), some (.int (nI to + 1))], [])) rfl ?_
          rw [nI_1, nI_1]
          refine ih (a :: A) B (D ++ [b]) σ2 _ _ fs fp le (ri + 1) (to + 1) (by simp; omega) (by simp; omega) (by omega) (by simp; omega) (by simp; omega) hm2 hA (fun x hx => hB x (List.mem_cons_of_mem _ hx)) (fun i x hx => ?_) (fun i x hx => iA i x hx) (fun i x hx => ?_) (fun i hi => ?_) (fun σ' fv' fo' fs' fp' h1 h2 h3 => hQ σ' fv' fo' fs' fp' h1 (fun i x hx => h2 i x ?_) h3)
          · rw [List.getElem?_append] at hx
            split at hx
            · exact (iD i x hx).up (by omega)
            · have hi0 : i - D.length = 0 := by
                cases hk : i - D.length with
                | zero => rfl
                | succ k => rw [hk] at hx; simp at hx
              rw [hi0] at hx
              simp at hx
              subst hx
              have hie : low + i = to := by omega
              rw [hie]
              exact ⟨bb, va_up_s, hb2, pk_us⟩
          · have := iB (i + 1) x (by simpa using hx)
            rw [show ri + (i + 1) = ri + 1 + i by omega] at this
            exact this.up (by omega)
          · have := io i hi
            rw [va_up_n (by omega), pk_un (by omega)]
            exact this
          · rw [hmg] at hx
            rw [List.append_assoc]
            exact hx
end P44
end
section
/-- sorted from lo to hi -/
def srtI (X : sp_X) (lo hi : Nat) : Prop := ∀ (i j : Nat) (a b : sp_I), lo ≤ i → i < j → j < hi → X[i]? = some a → X[j]? = some b → sp_lq a b
theorem srtI.so {X : sp_X} {lo hi : Nat} (h : srtI X lo hi) : sp_so ((X.drop lo).take (hi - lo)) := by
  refine List.pairwise_iff_getElem.mpr (fun i j hi' hj hij => ?_)
  have e1 := List.getElem?_eq_getElem hi'
  have e2 := List.getElem?_eq_getElem hj
  generalize ((X.drop lo).take (hi - lo))[i] = a at e1 ⊢
  generalize ((X.drop lo).take (hi - lo))[j] = b at e2 ⊢
  rw [List.getElem?_take] at e1 e2
  split at e1
  · split at e2
    · rw [List.getElem?_drop] at e1 e2
      exact h _ _ a b (by omega) (by omega) (by omega) e1 e2
    · cases e2
  · cases e1
theorem sp_cut {X M : sp_X} {low high : Nat} (h1 : low ≤ high) (h2 : high ≤ X.length) (hM : M.length = high - low) (i : Nat) : (X.take low ++ (M ++ X.drop high))[i]? = if i < low then X[i]? else if i < high then M[i - low]? else X[i]? := by
  have hT : (X.take low).length = low := by rw [List.length_take]; omega
  rw [List.getElem?_append, hT]
  by_cases q : i < low
  · rw [if_pos q, if_pos q, List.getElem?_take, if_pos q]
  · rw [if_neg q, if_neg q, List.getElem?_append, hM]
    by_cases z : i < high
    · rw [if_pos (by omega), if_pos z]
    · rw [if_neg (by omega), if_neg z, List.getElem?_drop]
      congr 1
      omega
theorem sp_cut_eq {X : sp_X} {low mid high : Nat} (h0 : low ≤ mid) (h1 : mid ≤ high) (h2 : high ≤ X.length) : X = X.take low ++ (((X.drop low).take (mid - low) ++ (X.drop mid).take (high - mid)) ++ X.drop high) := by
  have hA : ((X.drop low).take (mid - low)).length = mid - low := by rw [List.length_take, List.length_drop]; omega
  have hB : ((X.drop mid).take (high - mid)).length = high - mid := by rw [List.length_take, List.length_drop]; omega
  apply List.ext_getElem?
  intro i
  rw [sp_cut (by omega) h2 (by rw [List.length_append, hA, hB]; omega)]
  by_cases q : i < low
  · rw [if_pos q]
  · rw [if_neg q]
    by_cases z : i < high
    · rw [if_pos z, List.getElem?_append, hA]
      by_cases y : i - low < mid - low
      · rw [if_pos y, List.getElem?_take, if_pos y, List.getElem?_drop]
        congr 1
        omega
      · rw [if_neg y, List.getElem?_take, if_pos (by omega), List.getElem?_drop]
        congr 1
        omega
    · rw [if_neg z]
section P45
variable {g : Nat × Nat} {d : Nat} {σ : am_H} {Q : Option Value → am_H → Prop}
/-- ValueList.valueAt, where there is one -/
theorem c_vat {w va oa sa pa N k a : Nat} {ov : Bool} {fv : Nat → Option Nat} (hw : σ.1 w = some (cLs va oa sa pa N ov)) (hva : σ.1 va = some (cA3 fv)) (hk : k < N) (hN : N ≤ 500) (hfv : fv k = some a) (hQ : Q (some (.ref a)) σ) : AW g d 47 (0, [some (.ref w), some (.int (nI k))], []) σ Q := by
  refine aw_run 1 (F' := (1, [some (.ref w), some (.int (nI k))], [.int (nI k)])) rfl ?_
  refine aw_zlt rfl (fun z => absurd z (nI_pos (by omega))) (fun _ => ?_)
  refine aw_run 2 (F' := (6, [some (.ref w), some (.int (nI k))], [.ref w, .int (nI k)])) rfl ?_
  refine aw_get rfl hw rfl ?_
  refine aw_cge rfl (fun z => absurd ((nI_leI (by omega) (by omega)).mp z) (by omega)) (fun _ => ?_)
  refine aw_run 1 (F' := (13, [some (.ref w), some (.int (nI k))], [.ref w])) rfl ?_
  refine aw_get rfl hw rfl ?_
  refine aw_run 1 (F' := (17, [some (.ref w), some (.int (nI k))], [.int (nI k), .ref va])) rfl ?_
  refine aw_aald rfl (by decide) hva (vp_in_nI (by omega) (by omega)) ?_
  rw [nI_clamp (by omega), hfv]
  refine aw_run 1 (F' := (22, [some (.ref w), some (.int (nI k))], [.ref a])) rfl ?_
  exact aw_aret rfl ⟨_, rfl, Or.inl ⟨_, rfl⟩⟩ hQ
/-- mergeRuns: the left run is copied -/
theorem c_cpL {Z : Nat → Prop} {σ0 : am_H} {w va oa sa pa N low mid high lefts : Nat} {ov : Bool} {fv : Nat → Option Nat} {fo : Nat → Int32} (hf : fw5 g Z w va oa sa pa) (hw : σ0.1 w = some (cLs va oa sa pa N ov)) (hN : low + lefts ≤ 500) (hit : ∀ i, i < lefts → ∃ x, itm Z σ0.1 fv fo (low + i) x) (hQ : ∀ (σ' : am_H) (fs : Nat → Option Nat) (fp : Nat → Int32), mst σ0 σ' va oa sa pa fv fo fs fp → (∀ j, j < lefts → fs j = fv (low + j) ∧ fp j = fo (low + j)) → AW g d 52 (73, [some (.ref w), some (.int (nI low)), some (.int (nI mid)), some (.int (nI high)), some (.int (nI lefts)), some (.int (nI lefts)), none, none], []) σ' Q) : ∀ (n i : Nat) (σ : am_H) (fs : Nat → Option Nat) (fp : Nat → Int32), i + n = lefts → mst σ0 σ va oa sa pa fv fo fs fp → (∀ j, j < i → fs j = fv (low + j) ∧ fp j = fo (low + j)) → AW g d 52 (28, [some (.ref w), some (.int (nI low)), some (.int (nI mid)), some (.int (nI high)), some (.int (nI lefts)), some (.int (nI i)), none, none], []) σ Q := by
  intro n
  induction n with
  | zero =>
    intro i σ fs fp hi hm hc
    have : i = lefts := by omega
    subst this
    refine aw_run 2 (F' := (32, [some (.ref w), some (.int (nI low)), some (.int (nI mid)), some (.int (nI high)), some (.int (nI i)), some (.int (nI i)), none, none], [.int (nI i), .int (nI i)])) rfl ?_
    refine aw_cge rfl (fun _ => hQ σ fs fp hm hc) (fun z => absurd (Int32.le_refl _) z)
  | succ n ih =>
    intro i σ fs fp hi hm hc
    have hwc := (hm.sw hf).trans hw
    have hm' := hm
    obtain ⟨m1, m2, m3, m4, m5, m6⟩ := hm'
    have hf' := hf
    obtain ⟨-, g4, g5, -⟩ := hf'
    obtain ⟨x, aa, ha1, ha2, ha3⟩ := hit i (by omega)
    obtain ⟨a0, b1, b2, b3, b4, b5, b6, b7, hac⟩ := (ha2.kept (hm.sz hf) (fun _ z => z)).cell
    refine aw_run 2 (F' := (32, [some (.ref w), some (.int (nI low)), some (.int (nI mid)), some (.int (nI high)), some (.int (nI lefts)), some (.int (nI i)), none, none], [.int (nI lefts), .int (nI i)])) rfl ?_
    refine aw_cge rfl (fun z => absurd ((nI_leI (by omega) (by omega)).mp z) (by omega)) (fun _ => ?_)
    refine aw_run 1 (F' := (36, [some (.ref w), some (.int (nI low)), some (.int (nI mid)), some (.int (nI high)), some (.int (nI lefts)), some (.int (nI i)), none, none], [.ref w])) rfl ?_
    refine aw_get rfl hwc rfl ?_
    refine aw_run 2 (F' := (42, [some (.ref w), some (.int (nI low)), some (.int (nI mid)), some (.int (nI high)), some (.int (nI lefts)), some (.int (nI i)), none, none], [.ref w, .int (nI i), .ref sa])) rfl ?_
    refine aw_get rfl hwc rfl ?_
    refine aw_run 3 (F' := (49, [some (.ref w), some (.int (nI low)), some (.int (nI mid)), some (.int (nI high)), some (.int (nI lefts)), some (.int (nI i)), none, none], [.int (nI low + nI i), .ref va, .int (nI i), .ref sa])) rfl ?_
    rw [nI_add]
    refine aw_aald rfl (by decide) m3 (vp_in_nI (by omega) (by omega)) ?_
    rw [nI_clamp (by omega), ha1]
    refine aw_aast rfl g4 m5 rfl hac (vp_in_nI (by omega) (by omega)) ?_
    rw [nI_clamp (by omega)]
    have hm1 := hm.ssa hf (va_up fs i (some aa))
    generalize am_set σ sa (cA3 (va_up fs i (some aa))) = σ1 at hm1 ⊢
    have hwc1 := (hm1.sw hf).trans hw
    have hm1' := hm1
    obtain ⟨p1, p2, p3, p4, p5, p6⟩ := hm1'
    refine aw_run 1 (F' := (52, [some (.ref w), some (.int (nI low)), some (.int (nI mid)), some (.int (nI high)), some (.int (nI lefts)), some (.int (nI i)), none, none], [.ref w])) rfl ?_
    refine aw_get rfl hwc1 rfl ?_
    refine aw_run 2 (F' := (58, [some (.ref w), some (.int (nI low)), some (.int (nI mid)), some (.int (nI high)), some (.int (nI lefts)), some (.int (nI i)), none, none], [.ref w, .int (nI i), .ref pa])) rfl ?_
    refine aw_get rfl hwc1 rfl ?_
    refine aw_run 3 (F' := (65, [some (.ref w), some (.int (nI low)), some (.int (nI mid)), some (.int (nI high)), some (.int (nI lefts)), some (.int (nI i)), none, none], [.int (nI low + nI i), .ref oa, .int (nI i), .ref pa])) rfl ?_
    rw [nI_add]
    refine aw_iald rfl p4 (vp_in_nI (by omega) (by omega)) ?_
    rw [nI_clamp (by omega)]
    refine aw_iast rfl g5 p6 (vp_in_nI (by omega) (by omega)) ?_
    rw [nI_clamp (by omega)]
    have hm2 := hm1.spa hf (upd fp i (fo (low + i)))
    generalize am_set σ1 pa (cA0 (upd fp i (fo (low + i)))) = σ2 at hm2 ⊢
    refine aw_run 2 (F' := (28, [some (.ref w), some (.int (nI low)), some (.int (nI mid)), some (.int (nI high)), some (.int (nI lefts)), some (.int (nI i + 1)), none, none], [])) rfl ?_
    rw [nI_1]
    refine ih (i + 1) σ2 _ _ (by omega) hm2 (fun j hj => ?_)
    by_cases q : j = i
    · subst q
      exact ⟨va_up_s.trans ha1.symm, pk_us⟩
    · rw [va_up_n q, pk_un q]
      exact hc j (by omega)
/-- ValueList.mergeRuns -/
theorem c_mrg {Z : Nat → Prop} {σ0 : am_H} {w va oa sa pa low mid high : Nat} {ov : Bool} {X : sp_X} {fv : Nat → Option Nat} {fo : Nat → Int32} {fs : Nat → Option Nat} {fp : Nat → Int32} (hd : 54 ≤ d) (hf : fw5 g Z w va oa sa pa) (hw : σ0.1 w = some (cLs va oa sa pa X.length ov)) (hX : X.length ≤ 500) (hm : mst σ0 σ va oa sa pa fv fo fs fp) (hit : ∀ i x, X[i]? = some x → itm Z σ0.1 fv fo i x) (hh : ∀ x ∈ X, sp_hgt x.1.2 ≤ 16) (h1 : low < mid) (h2 : mid < high) (h3 : high ≤ X.length) (s1 : srtI X low mid) (s2 : srtI X mid high)
    (hQ : ∀ (σ' : am_H) (fv' : Nat → Option Nat) (fo' : Nat → Int32) (fs' : Nat → Option Nat) (fp' : Nat → Int32) (X' : sp_X), mst σ0 σ' va oa sa pa fv' fo' fs' fp' → (∀ i x, X'[i]? = some x → itm Z σ0.1 fv' fo' i x) → X'.length = X.length → sp_eq X X' → (∀ i, i < low ∨ high ≤ i → X'[i]? = X[i]?) → srtI X' low high → Q none σ') : AW g d 52 (0, [some (.ref w), some (.int (nI low)), some (.int (nI mid)), some (.int (nI high)), none, none, none, none], []) σ Q := by
  obtain ⟨d, rfl⟩ : ∃ d', d = d' + 1 := ⟨d - 1, by omega⟩
  have hwc := (hm.sw hf).trans hw
  have hZ := hm.sz hf
  have hm' := hm
  obtain ⟨m1, m2, m3, m4, m5, m6⟩ := hm'
  have get : ∀ i, i < X.length → ∃ x, X[i]? = some x := fun i hi => ⟨_, List.getElem?_eq_getElem hi⟩
  obtain ⟨xa, hxa⟩ := get (mid - 1) (by omega)
  obtain ⟨xb, hxb⟩ := get mid (by omega)
  obtain ⟨aa, ha1, ha2, ha3⟩ := hit _ _ hxa
  obtain ⟨bb, hb1, hb2, hb3⟩ := hit _ _ hxb
  refine aw_run 4 (F' := (4, [some (.ref w), some (.int (nI low)), some (.int (nI mid)), some (.int (nI high)), none, none, none, none], [.int (nI mid - nI 1), .ref w])) rfl ?_
  rw [pk_sub (by omega)]
  refine aw_v [.ref w, .int (nI (mid - 1))] [] rfl (by decide) rfl hwc rfl rfl (Nat.le_of_ble_eq_true rfl) (Nat.le_of_ble_eq_true rfl) ?_
  refine c_vat hwc m3 (by omega) hX ha1 ?_
  refine aw_run 2 (F' := (9, [some (.ref w), some (.int (nI low)), some (.int (nI mid)), some (.int (nI high)), none, none, none, none], [.int (nI mid), .ref w, .ref aa])) rfl ?_
  refine aw_v [.ref w, .int (nI mid)] [.ref aa] rfl (by decide) rfl hwc rfl rfl (Nat.le_of_ble_eq_true rfl) (Nat.le_of_ble_eq_true rfl) ?_
  refine c_vat hwc m3 (by omega) hX hb1 ?_
  refine aw_run 1 (F' := (13, [some (.ref w), some (.int (nI low)), some (.int (nI mid)), some (.int (nI high)), none, none, none, none], [.int (nI 1), .ref bb, .ref aa])) rfl ?_
  refine aw_s [.ref aa, .ref bb, .int (nI 1)] [] rfl ⟨by decide, by decide⟩ rfl rfl (Nat.le_of_ble_eq_true rfl) (Nat.le_of_ble_eq_true rfl) ?_
  have hha := hh xa (List.mem_of_getElem? hxa)
  refine c_ofValues (ha2.kept hZ (fun _ z => z)).vl (hb2.kept hZ (fun _ z => z)).vl (by omega) (by omega) ?_
  refine aw_zgt rfl (fun z => ?_) (fun z => ?_)
  · have hlA : ((X.drop low).take (mid - low)).length = mid - low := by rw [List.length_take, List.length_drop]; omega
    have hlB : ((X.drop mid).take (high - mid)).length = high - mid := by rw [List.length_take, List.length_drop]; omega
    have gA : ∀ i x, ((X.drop low).take (mid - low))[i]? = some x → X[low + i]? = some x := by
      intro i x hx
      rw [List.getElem?_take] at hx
      split at hx
      · rw [List.getElem?_drop] at hx; exact hx
      · cases hx
    have gB : ∀ i x, ((X.drop mid).take (high - mid))[i]? = some x → X[mid + i]? = some x := by
      intro i x hx
      rw [List.getElem?_take] at hx
      split at hx
      · rw [List.getElem?_drop] at hx; exact hx
      · cases hx
    have sA := s1.so
    have sB := s2.so
    have hcut := sp_cut_eq (X := X) (low := low) (mid := mid) (high := high) (by omega) (by omega) h3
    have mA : ∀ x ∈ (X.drop low).take (mid - low), sp_hgt x.1.2 ≤ 16 := fun x hx => hh x (List.mem_of_mem_drop (List.mem_of_mem_take hx))
    have mB : ∀ x ∈ (X.drop mid).take (high - mid), sp_hgt x.1.2 ≤ 16 := fun x hx => hh x (List.mem_of_mem_drop (List.mem_of_mem_take hx))
    generalize (X.drop low).take (mid - low) = A at hlA gA sA hcut mA
    generalize (X.drop mid).take (high - mid) = B at hlB gB sB hcut mB
    refine aw_run 6 (F' := (28, [some (.ref w), some (.int (nI low)), some (.int (nI mid)), some (.int (nI high)), some (.int (nI mid - nI low)), some (.int (nI 0)), none, none], [])) rfl ?_
    rw [pk_sub (by omega)]
    refine c_cpL hf hw (by omega) (fun i hi => ?_) (fun σ1 fs1 fp1 hm1 hc1 => ?_) (mid - low) 0 σ fs fp (by omega) hm (fun j hj => by omega)
    · obtain ⟨x, hx⟩ := get (low + i) (by omega)
      exact ⟨x, hit _ _ hx⟩
    refine aw_run 6 (F' := (82, [some (.ref w), some (.int (nI low)), some (.int (nI mid)), some (.int (nI high)), some (.int (nI (mid - low))), some (.int (nI 0)), some (.int (nI mid)), some (.int (nI low))], [])) rfl ?_
    refine c_mrgL (d := d) (by omega) hf hw (by omega) (by omega) (fv0 := fv) (fo0 := fo) (A.length + B.length) A B [] σ1 fv fo fs1 fp1 0 mid low (Nat.le_refl _) (by omega) (by omega) (by omega) rfl hm1 mA mB (fun i x hx => by simp at hx) (fun i x hx => ?_) (fun i x hx => hit _ _ (gB i x hx)) (fun i _ => ⟨rfl, rfl⟩) (fun σ' fv' fo' fs' fp' hm2 hi2 ho2 => ?_)
    · obtain ⟨a, q1, q2, q3⟩ := hit _ _ (gA i x hx)
      have hi : i < A.length := (List.getElem?_eq_some_iff.mp hx).1
      obtain ⟨r1, r2⟩ := hc1 i (by omega)
      rw [Nat.zero_add]
      exact ⟨a, r1.trans q1, q2, r2.trans q3⟩
    · rw [List.nil_append] at hi2
      have hlM := sp_mrg_len (A.length + B.length) A B
      have sM := sp_mrg_so (A.length + B.length) A B (Nat.le_refl _) sA sB
      have eM := sp_mrg_eq (A.length + B.length) A B sA
      generalize sp_mrg (A.length + B.length) A B = M at hi2 hlM sM eM
      have cut := sp_cut (X := X) (M := M) (low := low) (high := high) (by omega) h3 (by omega)
      refine hQ σ' fv' fo' fs' fp' (X.take low ++ (M ++ X.drop high)) hm2 (fun i x hx => ?_) ?_ ?_ (fun i hi => ?_) (fun i j a b b1 b2 b3 b4 b5 => ?_)
      · rw [cut] at hx
        by_cases q : i < low
        · rw [if_pos q] at hx
          obtain ⟨a, q1, q2, q3⟩ := hit _ _ hx
          obtain ⟨r1, r2⟩ := ho2 i (Or.inl q)
          exact ⟨a, r1.trans q1, q2, r2.trans q3⟩
        · rw [if_neg q] at hx
          by_cases y : i < high
          · rw [if_pos y] at hx
            have := hi2 _ _ hx
            rw [show low + (i - low) = i by omega] at this
            exact this
          · rw [if_neg y] at hx
            obtain ⟨a, q1, q2, q3⟩ := hit _ _ hx
            obtain ⟨r1, r2⟩ := ho2 i (Or.inr (by omega))
            exact ⟨a, r1.trans q1, q2, r2.trans q3⟩
      · rw [List.length_append, List.length_append, List.length_take, List.length_drop]
        omega
      · have : sp_eq (X.take low ++ ((A ++ B) ++ X.drop high)) (X.take low ++ (M ++ X.drop high)) := (sp_eq.rf _).app (eM.app (sp_eq.rf _))
        rw [← hcut] at this
        exact this
      · rw [cut]
        rcases hi with q | q
        · rw [if_pos q]
        · rw [if_neg (by omega), if_neg (by omega)]
      · rw [cut, if_neg (by omega), if_pos (by omega)] at b4 b5
        have hi := (List.getElem?_eq_some_iff.mp b4)
        have hj := (List.getElem?_eq_some_iff.mp b5)
        obtain ⟨hi, rfl⟩ := hi
        obtain ⟨hj, rfl⟩ := hj
        exact List.pairwise_iff_getElem.mp sM _ _ hi hj (by omega)
  · have hlq : sp_lq xa xb := Int32.not_lt.mp z
    refine aw_vret rfl rfl (hQ σ fv fo fs fp X hm hit rfl (sp_eq.rf X) (fun _ _ => rfl) (fun i j a b b1 b2 b3 b4 b5 => ?_))
    by_cases q1 : j < mid
    · exact s1 i j a b b1 b2 q1 b4 b5
    · by_cases q2 : mid ≤ i
      · exact s2 i j a b q2 b2 b3 b4 b5
      · have l1 : sp_lq a xa := by
          by_cases e : i = mid - 1
          · rw [e, hxa] at b4
            cases b4
            exact sp_lq_rf _
          · exact s1 i (mid - 1) a xa b1 (by omega) (by omega) b4 hxa
        have l2 : sp_lq xb b := by
          by_cases e : j = mid
          · rw [e, hxb] at b5
            cases b5
            exact sp_lq_rf _
          · exact s2 mid j xb b (Nat.le_refl _) (by omega) b3 hxb b5
        exact sp_lq_tr l1 (sp_lq_tr hlq l2)
end P45
end
section
/-! arrange -/
theorem srtI.ge {X : sp_X} {lo hi hi' : Nat} (h : srtI X lo hi) (hl : X.length ≤ hi) : srtI X lo hi' := fun i j a b h1 h2 _ h4 h5 => h i j a b h1 h2 (by have := (List.getElem?_eq_some_iff.mp h5).1; omega) h4 h5
theorem srtI.same {X X' : sp_X} {lo hi : Nat} (h : srtI X lo hi) (e : ∀ i, lo ≤ i → i < hi → X'[i]? = X[i]?) : srtI X' lo hi := fun i j a b h1 h2 h3 h4 h5 => h i j a b h1 h2 h3 ((e i h1 (by omega)).symm.trans h4) ((e j (by omega) h3).symm.trans h5)
theorem srtI.all {X : sp_X} (h : srtI X 0 X.length) : sp_so X := by
  have := h.so
  rw [List.drop_zero, Nat.sub_zero, List.take_length] at this
  exact this
theorem dvd_step {W q q0 : Nat} (h1 : W ∣ q) (h2 : W ∣ q0) (h : q < q0) : q + W ≤ q0 := by
  obtain ⟨a, rfl⟩ := h1
  obtain ⟨b, rfl⟩ := h2
  have hab : a < b := Nat.lt_of_mul_lt_mul_left h
  have := Nat.mul_le_mul_left W hab
  rw [Nat.mul_succ] at this
  exact this
section P46
variable {g : Nat × Nat} {d : Nat} {σ : am_H} {Q : Option Value → am_H → Prop}
/-- what is known of a list while it is arranged -/
def ast (g : Nat × Nat) (Z : Nat → Prop) (σ0 σ : am_H) (va oa sa pa : Nat) (X0 X : sp_X) : Prop := X.length = X0.length ∧ sp_eq X0 X ∧ ∃ fv fo fs fp, mst σ0 σ va oa sa pa fv fo fs fp ∧ ∀ i x, X[i]? = some x → itm Z σ0.1 fv fo i x
set_option maxHeartbeats 2000000 in
/-- arrange: a pass -/
theorem c_arr2 {Z : Nat → Prop} {σ0 : am_H} {w va oa sa pa W : Nat} {ov : Bool} {X0 : sp_X} (hd : 55 ≤ d) (hf : fw5 g Z w va oa sa pa) (hw : σ0.1 w = some (cLs va oa sa pa X0.length ov)) (hX0 : X0.length ≤ 500) (hh : ∀ x ∈ X0, sp_hgt x.1.2 ≤ 16) (hW : 1 ≤ W) (hWN : W < X0.length)
    (hQ : ∀ (σ' : am_H) (X' : sp_X) (q : Int32), ast g Z σ0 σ' va oa sa pa X0 X' → (∀ q, 2 * W ∣ q → srtI X' q (q + 2 * W)) → AW g d 51 (51, [some (.ref w), some (.int (nI W)), some (.int q)], []) σ' Q) : ∀ (n q0 : Nat) (σ : am_H) (X : sp_X), X0.length ≤ q0 + n → q0 ≤ 2000 → 2 * W ∣ q0 → ast g Z σ0 σ va oa sa pa X0 X → (∀ q, 2 * W ∣ q → q < q0 → srtI X q (q + 2 * W)) → (∀ q, W ∣ q → q0 ≤ q → srtI X q (q + W)) → AW g d 51 (12, [some (.ref w), some (.int (nI W)), some (.int (nI q0))], []) σ Q := by
  obtain ⟨d, rfl⟩ : ∃ d', d = d' + 1 := ⟨d - 1, by omega⟩
  have hexit : ∀ (q0 : Nat) (σ : am_H) (X : sp_X), X0.length ≤ q0 + W → 2 * W ∣ q0 → ast g Z σ0 σ va oa sa pa X0 X → (∀ q, 2 * W ∣ q → q < q0 → srtI X q (q + 2 * W)) → (∀ q, W ∣ q → q0 ≤ q → srtI X q (q + W)) → AW g (d + 1) 51 (51, [some (.ref w), some (.int (nI W)), some (.int (nI q0))], []) σ Q := by
    intro q0 σ X hl hq0 ha hb1 hb2
    refine hQ σ X _ ha (fun q hq => ?_)
    by_cases z : q < q0
    · exact hb1 q hq z
    · have hWq : W ∣ q := Nat.dvd_trans ⟨2, by omega⟩ hq
      exact (hb2 q hWq (by omega)).ge (by have := ha.1; omega)
  intro n
  induction n with
  | zero =>
    intro q0 σ X hl hq2 hq0 ha hb1 hb2
    have ha' := ha
    obtain ⟨e1, e2, fv, fo, fs, fp, hm, hit⟩ := ha'
    have hwc := (hm.sw hf).trans hw
    refine aw_run 4 (F' := (16, [some (.ref w), some (.int (nI W)), some (.int (nI q0))], [.ref w, .int (nI q0 + nI W)])) rfl ?_
    refine aw_get rfl hwc rfl ?_
    rw [nI_add]
    refine aw_cge rfl (fun _ => hexit q0 σ X (by omega) hq0 ha hb1 hb2) (fun z => absurd ((nI_leI (by omega) (by omega)).mpr (by omega)) z)
  | succ n ih =>
    intro q0 σ X hl hq2 hq0 ha hb1 hb2
    have ha' := ha
    obtain ⟨e1, e2, fv, fo, fs, fp, hm, hit⟩ := ha'
    have hwc := (hm.sw hf).trans hw
    refine aw_run 4 (F' := (16, [some (.ref w), some (.int (nI W)), some (.int (nI q0))], [.ref w, .int (nI q0 + nI W)])) rfl ?_
    refine aw_get rfl hwc rfl ?_
    rw [nI_add]
    refine aw_cge rfl (fun z => ?_) (fun z => ?_)
    · have z' := (nI_leI (by omega) (by omega)).mp z
      exact hexit q0 σ X (by omega) hq0 ha hb1 hb2
    · have z' : ¬ X0.length ≤ q0 + W := fun y => z ((nI_leI (by omega) (by omega)).mpr y)
      refine aw_run 11 (F' := (33, [some (.ref w), some (.int (nI W)), some (.int (nI q0))], [.ref w, .int (nI q0 + nI 2 * nI W), .int (nI q0 + nI W), .int (nI q0), .ref w])) rfl ?_
      refine aw_get rfl hwc rfl ?_
      rw [pk_mul, nI_add, nI_add]
      refine aw_min rfl (Nat.le_of_ble_eq_true rfl) (by omega) ?_
      have hmin : (if nI X0.length < nI (q0 + 2 * W) then nI X0.length else nI (q0 + 2 * W)) = nI (min (q0 + 2 * W) X0.length) := by
        by_cases y : X0.length < q0 + 2 * W
        · rw [if_pos ((nI_ltI (by omega) (by omega)).mpr y), Nat.min_eq_right (by omega)]
        · rw [if_neg (fun u => y ((nI_ltI (by omega) (by omega)).mp u)), Nat.min_eq_left (by omega)]
      rw [hmin]
      refine aw_v [.ref w, .int (nI q0), .int (nI (q0 + W)), .int (nI (min (q0 + 2 * W) X0.length))] [] rfl (by decide) rfl hwc rfl rfl (Nat.le_of_ble_eq_true rfl) (Nat.le_of_ble_eq_true rfl) ?_
      have hhi : min (q0 + 2 * W) X0.length ≤ q0 + 2 * W ∧ min (q0 + 2 * W) X0.length ≤ X0.length ∧ q0 + W < min (q0 + 2 * W) X0.length ∧ (min (q0 + 2 * W) X0.length = q0 + 2 * W ∨ min (q0 + 2 * W) X0.length = X0.length) := by omega
      generalize min (q0 + 2 * W) X0.length = hi at hhi ⊢
      obtain ⟨hi1, hi2, hi3, hi4⟩ := hhi
      have hWq0 : W ∣ q0 := Nat.dvd_trans ⟨2, by omega⟩ hq0
      have hWq1 : W ∣ q0 + W := Nat.dvd_add hWq0 (Nat.dvd_refl W)
      have s1 := hb2 q0 hWq0 (Nat.le_refl _)
      have s2 : srtI X (q0 + W) hi := fun i j a b h1 h2 h3 h4 h5 => hb2 (q0 + W) hWq1 (by omega) i j a b h1 h2 (by omega) h4 h5
      refine c_mrg (d := d) (by omega) hf (by rw [hw, e1]) (by omega) hm hit (fun x hx => hh x (e2.mem hx)) (by omega) (by omega) (by omega) s1 s2 (fun σ' fv' fo' fs' fp' X' hm' hit' hlen heq hout hsr => ?_)
      have hwc' := (hm'.sw hf).trans hw
      refine aw_run 7 (F' := (12, [some (.ref w), some (.int (nI W)), some (.int (nI q0 + nI 2 * nI W))], [])) rfl ?_
      rw [pk_mul, nI_add]
      refine ih (q0 + 2 * W) σ' X' (by omega) (by omega) (Nat.dvd_add hq0 (Nat.dvd_refl _)) ⟨hlen.trans e1, e2.tr heq, fv', fo', fs', fp', hm', hit'⟩ (fun q hq hlt => ?_) (fun q hq hge => ?_)
      · by_cases y : q < q0
        · have := dvd_step hq hq0 y
          exact (hb1 q hq y).same (fun i b1 b2 => hout i (Or.inl (by omega)))
        · have hqe : q = q0 := by
            rcases Nat.lt_or_ge q0 q with u | u
            · have := dvd_step hq0 hq u
              omega
            · omega
          subst hqe
          rcases hi4 with u | u
          · rw [← u]; exact hsr
          · exact hsr.ge (by omega)
      · exact (hb2 q hq (by omega)).same (fun i b1 b2 => hout i (Or.inr (by omega)))
/-- arrange: its passes -/
theorem c_arr1 {Z : Nat → Prop} {σ0 : am_H} {w va oa sa pa : Nat} {ov : Bool} {X0 : sp_X} (hd : 55 ≤ d) (hf : fw5 g Z w va oa sa pa) (hw : σ0.1 w = some (cLs va oa sa pa X0.length ov)) (hX0 : X0.length ≤ 500) (hh : ∀ x ∈ X0, sp_hgt x.1.2 ≤ 16) (hQ : ∀ (σ' : am_H) (X' : sp_X), ast g Z σ0 σ' va oa sa pa X0 X' → sp_so X' → Q none σ') : ∀ (n W : Nat) (σ : am_H) (X : sp_X) (q : Option Value), 1 ≤ W → W ≤ 2000 → X0.length ≤ W + n → ast g Z σ0 σ va oa sa pa X0 X → (∀ q, W ∣ q → srtI X q (q + W)) → AW g d 51 (2, [some (.ref w), some (.int (nI W)), q], []) σ Q := by
  intro n
  induction n with
  | zero =>
    intro W σ X q hW hW2 hl ha hb
    have ha' := ha
    obtain ⟨e1, e2, fv, fo, fs, fp, hm, hit⟩ := ha'
    have hwc := (hm.sw hf).trans hw
    refine aw_run 2 (F' := (4, [some (.ref w), some (.int (nI W)), q], [.ref w, .int (nI W)])) rfl ?_
    refine aw_get rfl hwc rfl ?_
    refine aw_cge rfl (fun _ => ?_) (fun z => absurd ((nI_leI (by omega) (by omega)).mpr (by omega)) z)
    have hs := hb 0 (Nat.dvd_zero W)
    exact aw_vret rfl rfl (hQ σ X ha (hs.ge (by omega)).all)
  | succ n ih =>
    intro W σ X q hW hW2 hl ha hb
    have ha' := ha
    obtain ⟨e1, e2, fv, fo, fs, fp, hm, hit⟩ := ha'
    have hwc := (hm.sw hf).trans hw
    refine aw_run 2 (F' := (4, [some (.ref w), some (.int (nI W)), q], [.ref w, .int (nI W)])) rfl ?_
    refine aw_get rfl hwc rfl ?_
    refine aw_cge rfl (fun z => ?_) (fun z => ?_)
    · have z' := (nI_leI (by omega) (by omega)).mp z
      have hs := hb 0 (Nat.dvd_zero W)
      exact aw_vret rfl rfl (hQ σ X ha (hs.ge (by omega)).all)
    · have z' : ¬ X0.length ≤ W := fun y => z ((nI_leI (by omega) (by omega)).mpr y)
      refine aw_run 2 (F' := (12, [some (.ref w), some (.int (nI W)), some (.int (nI 0))], [])) rfl ?_
      refine c_arr2 hd hf hw hX0 hh hW (by omega) (fun σ' X' q' ha2 hb2 => ?_) X0.length 0 σ X (by omega) (by omega) (Nat.dvd_zero _) ha (fun q hq hlt => by omega) (fun q hq _ => hb q hq)
      refine aw_run 5 (F' := (2, [some (.ref w), some (.int (nI W * nI 2)), some (.int q')], [])) rfl ?_
      rw [pk_mul, Nat.mul_comm]
      exact ih (2 * W) σ' X' _ (by omega) (by omega) (by omega) ha2 hb2
/-- ValueList.arrange -/
theorem c_arr {Z : Nat → Prop} {w va oa sa pa : Nat} {ov : Bool} {X : sp_X} {fv : Nat → Option Nat} {fo : Nat → Int32} {fs : Nat → Option Nat} {fp : Nat → Int32} (hd : 55 ≤ d) (hf : fw5 g Z w va oa sa pa) (hw : σ.1 w = some (cLs va oa sa pa X.length ov)) (hX : X.length ≤ 500) (hva : σ.1 va = some (cA3 fv)) (hoa : σ.1 oa = some (cA0 fo)) (hsa : σ.1 sa = some (cA3 fs)) (hpa : σ.1 pa = some (cA0 fp)) (hit : ∀ i x, X[i]? = some x → itm Z σ.1 fv fo i x) (hh : ∀ x ∈ X, sp_hgt x.1.2 ≤ 16) (hQ : ∀ (σ' : am_H) (X' : sp_X), ast g Z σ σ' va oa sa pa X X' → sp_so X' → Q none σ') : AW g d 51 (0, [some (.ref w), none, none], []) σ Q := by
  refine aw_run 2 (F' := (2, [some (.ref w), some (.int (nI 1)), none], [])) rfl ?_
  exact c_arr1 hd hf hw hX hh hQ X.length 1 σ X none (by omega) (by omega) (by omega) ⟨rfl, sp_eq.rf X, fv, fo, fs, fp, ⟨fun _ _ _ _ _ => rfl, rfl, hva, hoa, hsa, hpa⟩, hit⟩ (fun q _ i j a b h1 h2 h3 => by omega)
end P46
end
section
/-! counting, sharing, and the small ones -/
/-- how many different ones among the first k of a sorted list -/
def sp_cd (X : sp_X) : Nat → Nat
  | 0 => 0
  | k + 1 => sp_cd X k + (match X[k - 1]?, X[k]? with
    | some a, some b => if k = 0 ∨ ¬ sp_vc a.1 b.1 = 0 then 1 else 0
    | _, _ => 0)
theorem sp_cd_le (X : sp_X) : ∀ k, sp_cd X k ≤ k
  | 0 => Nat.le_refl _
  | k + 1 => by
    have := sp_cd_le X k
    unfold sp_cd
    split
    · split <;> omega
    · omega
def sp_shr (X Y : sp_X) : Prop := ∃ a ∈ X, ∃ b ∈ Y, sp_vc a.1 b.1 = 0
section P47
variable {g : Nat × Nat} {d : Nat} {σ : am_H} {Q : Option Value → am_H → Prop}
/-- ValueList.countDifferent: its loop -/
theorem c_cdL {Z : Nat → Prop} {w va oa sa pa : Nat} {ov : Bool} {X : sp_X} {fv : Nat → Option Nat} (hd : 53 ≤ d) (hw : σ.1 w = some (cLs va oa sa pa X.length ov)) (hX : X.length ≤ 500) (hva : σ.1 va = some (cA3 fv)) (hit : ∀ i x, X[i]? = some x → ∃ a, fv i = some a ∧ vlz Z σ.1 a x.1) (hh : ∀ x ∈ X, sp_hgt x.1.2 ≤ 16) (hQ : Q (some (.int (nI (sp_cd X X.length)))) σ) : ∀ (n k : Nat), k + n = X.length → AW g (d + 1) 53 (4, [some (.ref w), some (.int (nI (sp_cd X k))), some (.int (nI k))], []) σ Q := by
  intro n
  induction n with
  | zero =>
    intro k hk
    have : k = X.length := by omega
    subst this
    refine aw_run 2 (F' := (6, [some (.ref w), some (.int (nI (sp_cd X X.length))), some (.int (nI X.length))], [.ref w, .int (nI X.length)])) rfl ?_
    refine aw_get rfl hw rfl ?_
    refine aw_cge rfl (fun _ => ?_) (fun z => absurd (Int32.le_refl _) z)
    refine aw_run 1 (F' := (47, [some (.ref w), some (.int (nI (sp_cd X X.length))), some (.int (nI X.length))], [.int (nI (sp_cd X X.length))])) rfl ?_
    exact aw_iret rfl ⟨_, rfl, rfl⟩ hQ
  | succ n ih =>
    intro k hk
    have get : ∀ i, i < X.length → ∃ x, X[i]? = some x := fun i hi => ⟨_, List.getElem?_eq_getElem hi⟩
    obtain ⟨xa, hxa⟩ := get (k - 1) (by omega)
    obtain ⟨xb, hxb⟩ := get k (by omega)
    obtain ⟨aa, ha1, ha2⟩ := hit _ _ hxa
    obtain ⟨bb, hb1, hb2⟩ := hit _ _ hxb
    have hcd : sp_cd X (k + 1) = sp_cd X k + (if k = 0 ∨ ¬ sp_vc xa.1 xb.1 = 0 then 1 else 0) := by
      rw [sp_cd, hxa, hxb]
    refine aw_run 2 (F' := (6, [some (.ref w), some (.int (nI (sp_cd X k))), some (.int (nI k))], [.ref w, .int (nI k)])) rfl ?_
    refine aw_get rfl hw rfl ?_
    refine aw_cge rfl (fun z => absurd ((nI_leI (by omega) (by omega)).mp z) (by omega)) (fun _ => ?_)
    refine aw_run 1 (F' := (13, [some (.ref w), some (.int (nI (sp_cd X k))), some (.int (nI k))], [.int (nI k)])) rfl ?_
    have more : (k = 0 ∨ ¬ sp_vc xa.1 xb.1 = 0) → AW g (d + 1) 53 (37, [some (.ref w), some (.int (nI (sp_cd X k))), some (.int (nI k))], []) σ Q := by
      intro q
      rw [if_pos q] at hcd
      refine aw_run 3 (F' := (4, [some (.ref w), some (.int (nI (sp_cd X k) + 1)), some (.int (nI k + 1))], [])) rfl ?_
      rw [nI_1, nI_1, ← hcd]
      exact ih (k + 1) (by omega)
    refine aw_zeq rfl (fun z => more (Or.inl ((nI_eq (b := 0) (by omega) (by omega)).mp z))) (fun z => ?_)
    have hk0 : k ≠ 0 := fun y => z (by rw [y]; rfl)
    refine aw_run 1 (F' := (17, [some (.ref w), some (.int (nI (sp_cd X k))), some (.int (nI k))], [.ref w])) rfl ?_
    refine aw_get rfl hw rfl ?_
    refine aw_run 3 (F' := (23, [some (.ref w), some (.int (nI (sp_cd X k))), some (.int (nI k))], [.int (nI k - nI 1), .ref va])) rfl ?_
    rw [pk_sub (by omega)]
    refine aw_aald rfl (by decide) hva (vp_in_nI (by omega) (by omega)) ?_
    rw [nI_clamp (by omega), ha1]
    refine aw_run 1 (F' := (25, [some (.ref w), some (.int (nI (sp_cd X k))), some (.int (nI k))], [.ref w, .ref aa])) rfl ?_
    refine aw_get rfl hw rfl ?_
    refine aw_run 1 (F' := (29, [some (.ref w), some (.int (nI (sp_cd X k))), some (.int (nI k))], [.int (nI k), .ref va, .ref aa])) rfl ?_
    refine aw_aald rfl (by decide) hva (vp_in_nI (by omega) (by omega)) ?_
    rw [nI_clamp (by omega), hb1]
    refine aw_run 1 (F' := (31, [some (.ref w), some (.int (nI (sp_cd X k))), some (.int (nI k))], [.int (nI 1), .ref bb, .ref aa])) rfl ?_
    refine aw_s [.ref aa, .ref bb, .int (nI 1)] [] rfl ⟨by decide, by decide⟩ rfl rfl (Nat.le_of_ble_eq_true rfl) (Nat.le_of_ble_eq_true rfl) ?_
    have hha := hh xa (List.mem_of_getElem? hxa)
    refine c_ofValues ha2.vl hb2.vl (by omega) (by omega) ?_
    refine aw_zeq rfl (fun y => ?_) (fun y => more (Or.inr y))
    rw [if_neg (fun u => by rcases u with u | u; exact hk0 u; exact u y)] at hcd
    have hcd' : sp_cd X k = sp_cd X (k + 1) := hcd.symm
    refine aw_run 2 (F' := (4, [some (.ref w), some (.int (nI (sp_cd X k))), some (.int (nI k + 1))], [])) rfl ?_
    rw [nI_1, hcd']
    exact ih (k + 1) (by omega)
theorem c_cd {Z : Nat → Prop} {w va oa sa pa : Nat} {ov : Bool} {X : sp_X} {fv : Nat → Option Nat} (hd : 53 ≤ d) (hw : σ.1 w = some (cLs va oa sa pa X.length ov)) (hX : X.length ≤ 500) (hva : σ.1 va = some (cA3 fv)) (hit : ∀ i x, X[i]? = some x → ∃ a, fv i = some a ∧ vlz Z σ.1 a x.1) (hh : ∀ x ∈ X, sp_hgt x.1.2 ≤ 16) (hQ : Q (some (.int (nI (sp_cd X X.length)))) σ) : AW g (d + 1) 53 (0, [some (.ref w), none, none], []) σ Q := by
  refine aw_run 4 (F' := (4, [some (.ref w), some (.int (nI 0)), some (.int (nI 0))], [])) rfl ?_
  exact c_cdL hd hw hX hva hit hh hQ X.length 0 (by omega)
/-- ValueList.sharesWith: its loop -/
theorem c_shL {Z : Nat → Prop} {w va oa sa pa w2 va2 oa2 sa2 pa2 : Nat} {ov ov2 : Bool} {X Y : sp_X} {fv fv2 : Nat → Option Nat} (hd : 53 ≤ d) (hw : σ.1 w = some (cLs va oa sa pa X.length ov)) (hX : X.length ≤ 500) (hva : σ.1 va = some (cA3 fv)) (hit : ∀ i x, X[i]? = some x → ∃ a, fv i = some a ∧ vlz Z σ.1 a x.1) (hh : ∀ x ∈ X, sp_hgt x.1.2 ≤ 16) (hw2 : σ.1 w2 = some (cLs va2 oa2 sa2 pa2 Y.length ov2)) (hY : Y.length ≤ 500) (hva2 : σ.1 va2 = some (cA3 fv2)) (hit2 : ∀ i x, Y[i]? = some x → ∃ a, fv2 i = some a ∧ vlz Z σ.1 a x.1) (sX : sp_so X) (sY : sp_so Y) (h1 : sp_shr X Y → Q (some (.int 1)) σ) (h0 : ¬ sp_shr X Y → Q (some (.int 0)) σ) : ∀ (n i j : Nat) (f : Option Value), X.length + Y.length ≤ i + j + n → i ≤ X.length → j ≤ Y.length → (∀ (p q : Nat) (a b : sp_I), p < i ∨ q < j → X[p]? = some a → Y[q]? = some b → ¬ sp_vc a.1 b.1 = 0) → AW g (d + 1) 57 (4, [some (.ref w), some (.ref w2), some (.int (nI i)), some (.int (nI j)), f], []) σ Q := by
  have srt : ∀ {W : sp_X}, sp_so W → ∀ (p q : Nat) (a b : sp_I), p ≤ q → W[p]? = some a → W[q]? = some b → sp_lq a b := by
    intro W sW p q a b hpq ha hb
    obtain ⟨h1, rfl⟩ := List.getElem?_eq_some_iff.mp ha
    obtain ⟨h2, rfl⟩ := List.getElem?_eq_some_iff.mp hb
    rcases Nat.lt_or_ge p q with u | u
    · exact List.pairwise_iff_getElem.mp sW p q h1 h2 u
    · have : p = q := by omega
      subst this
      exact sp_lq_rf _
  have none' : ∀ (i j : Nat), X.length ≤ i ∨ Y.length ≤ j → (∀ (p q : Nat) (a b : sp_I), p < i ∨ q < j → X[p]? = some a → Y[q]? = some b → ¬ sp_vc a.1 b.1 = 0) → ¬ sp_shr X Y := by
    rintro i j hij hn ⟨a, ha, b, hb, hab⟩
    obtain ⟨p, hp⟩ := List.mem_iff_getElem?.mp ha
    obtain ⟨q, hq⟩ := List.mem_iff_getElem?.mp hb
    have := (List.getElem?_eq_some_iff.mp hp).1
    have := (List.getElem?_eq_some_iff.mp hq).1
    exact hn p q a b (by omega) hp hq hab
  intro n
  induction n with
  | zero =>
    intro i j f hl hi hj hn
    refine aw_run 2 (F' := (6, [some (.ref w), some (.ref w2), some (.int (nI i)), some (.int (nI j)), f], [.ref w, .int (nI i)])) rfl ?_
    refine aw_get rfl hw rfl ?_
    refine aw_cge rfl (fun _ => ?_) (fun z => absurd ((nI_leI (by omega) (by omega)).mpr (by omega)) z)
    refine aw_run 1 (F' := (63, [some (.ref w), some (.ref w2), some (.int (nI i)), some (.int (nI j)), f], [.int 0])) rfl ?_
    exact aw_iret rfl ⟨_, rfl, rfl⟩ (h0 (none' i j (by omega) hn))
  | succ n ih =>
    intro i j f hl hi hj hn
    have fin : X.length ≤ i ∨ Y.length ≤ j → AW g (d + 1) 57 (62, [some (.ref w), some (.ref w2), some (.int (nI i)), some (.int (nI j)), f], []) σ Q := by
      intro q
      refine aw_run 1 (F' := (63, [some (.ref w), some (.ref w2), some (.int (nI i)), some (.int (nI j)), f], [.int 0])) rfl ?_
      exact aw_iret rfl ⟨_, rfl, rfl⟩ (h0 (none' i j q hn))
    refine aw_run 2 (F' := (6, [some (.ref w), some (.ref w2), some (.int (nI i)), some (.int (nI j)), f], [.ref w, .int (nI i)])) rfl ?_
    refine aw_get rfl hw rfl ?_
    refine aw_cge rfl (fun z => fin (Or.inl ((nI_leI (by omega) (by omega)).mp z))) (fun z => ?_)
    have z' : ¬ X.length ≤ i := fun y => z ((nI_leI (by omega) (by omega)).mpr y)
    refine aw_run 2 (F' := (14, [some (.ref w), some (.ref w2), some (.int (nI i)), some (.int (nI j)), f], [.ref w2, .int (nI j)])) rfl ?_
    refine aw_get rfl hw2 rfl ?_
    refine aw_cge rfl (fun z => fin (Or.inr ((nI_leI (by omega) (by omega)).mp z))) (fun y => ?_)
    have y' : ¬ Y.length ≤ j := fun u => y ((nI_leI (by omega) (by omega)).mpr u)
    have hxa := List.getElem?_eq_getElem (l := X) (i := i) (by omega)
    have hxb := List.getElem?_eq_getElem (l := Y) (i := j) (by omega)
    generalize X[i] = xa at hxa
    generalize Y[j] = xb at hxb
    obtain ⟨aa, ha1, ha2⟩ := hit _ _ hxa
    obtain ⟨bb, hb1, hb2⟩ := hit2 _ _ hxb
    refine aw_run 1 (F' := (21, [some (.ref w), some (.ref w2), some (.int (nI i)), some (.int (nI j)), f], [.ref w])) rfl ?_
    refine aw_get rfl hw rfl ?_
    refine aw_run 1 (F' := (25, [some (.ref w), some (.ref w2), some (.int (nI i)), some (.int (nI j)), f], [.int (nI i), .ref va])) rfl ?_
    refine aw_aald rfl (by decide) hva (vp_in_nI (by omega) (by omega)) ?_
    rw [nI_clamp (by omega), ha1]
    refine aw_run 1 (F' := (27, [some (.ref w), some (.ref w2), some (.int (nI i)), some (.int (nI j)), f], [.ref w2, .ref aa])) rfl ?_
    refine aw_get rfl hw2 rfl ?_
    refine aw_run 1 (F' := (31, [some (.ref w), some (.ref w2), some (.int (nI i)), some (.int (nI j)), f], [.int (nI j), .ref va2, .ref aa])) rfl ?_
    refine aw_aald rfl (by decide) hva2 (vp_in_nI (by omega) (by omega)) ?_
    rw [nI_clamp (by omega), hb1]
    refine aw_run 1 (F' := (33, [some (.ref w), some (.ref w2), some (.int (nI i)), some (.int (nI j)), f], [.int (nI 1), .ref bb, .ref aa])) rfl ?_
    refine aw_s [.ref aa, .ref bb, .int (nI 1)] [] rfl ⟨by decide, by decide⟩ rfl rfl (Nat.le_of_ble_eq_true rfl) (Nat.le_of_ble_eq_true rfl) ?_
    have hha := hh xa (List.mem_of_getElem? hxa)
    refine c_ofValues ha2.vl hb2.vl (by omega) (by omega) ?_
    refine aw_run 2 (F' := (40, [some (.ref w), some (.ref w2), some (.int (nI i)), some (.int (nI j)), some (.int (sp_vc xa.1 xb.1))], [.int (sp_vc xa.1 xb.1)])) rfl ?_
    refine aw_zne rfl (fun u => ?_) (fun u => ?_)
    rotate_left
    · refine aw_run 1 (F' := (44, [some (.ref w), some (.ref w2), some (.int (nI i)), some (.int (nI j)), some (.int (sp_vc xa.1 xb.1))], [.int 1])) rfl ?_
      exact aw_iret rfl ⟨_, rfl, rfl⟩ (h1 ⟨xa, List.mem_of_getElem? hxa, xb, List.mem_of_getElem? hxb, Decidable.of_not_not u⟩)
    refine aw_run 1 (F' := (47, [some (.ref w), some (.ref w2), some (.int (nI i)), some (.int (nI j)), some (.int (sp_vc xa.1 xb.1))], [.int (sp_vc xa.1 xb.1)])) rfl ?_
    refine aw_zge rfl (fun v => ?_) (fun v => ?_)
    · -- the right one is less
      have hv : sp_vc xb.1 xa.1 = -1 := by
        have h := sp_vc_neg xa.1 xb.1
        rcases is3_vc xa.1 xb.1 with e | e | e
        · rw [e] at v; exact absurd v (by decide)
        · exact absurd e u
        · rw [h, e]
      refine aw_run 2 (F' := (4, [some (.ref w), some (.ref w2), some (.int (nI i)), some (.int (nI j + 1)), some (.int (sp_vc xa.1 xb.1))], [])) rfl ?_
      rw [nI_1]
      refine ih i (j + 1) _ (by omega) hi (by omega) (fun p q a b hpq hp hq hab => ?_)
      by_cases e : p < i ∨ q < j
      · exact hn p q a b e hp hq hab
      · have hqj : q = j := by omega
        subst hqj
        rw [hxb] at hq
        cases hq
        have h3 := sp_gt_ns hv (srt sX i p xa a (by omega) hxa hp)
        have h4 := sp_vc_neg a.1 xb.1
        rw [hab] at h4
        rw [h4] at h3
        exact absurd h3 (by decide)
    · have hv : sp_vc xa.1 xb.1 = -1 := by
        rcases is3_vc xa.1 xb.1 with e | e | e
        · exact e
        · exact absurd e u
        · rw [e] at v; exact absurd (by decide) v
      refine aw_run 3 (F' := (4, [some (.ref w), some (.ref w2), some (.int (nI i + 1)), some (.int (nI j)), some (.int (sp_vc xa.1 xb.1))], [])) rfl ?_
      rw [nI_1]
      refine ih (i + 1) j _ (by omega) (by omega) hj (fun p q a b hpq hp hq hab => ?_)
      by_cases e : p < i ∨ q < j
      · exact hn p q a b e hp hq hab
      · have hpi : p = i := by omega
        subst hpi
        rw [hxa] at hp
        cases hp
        have h3 := sp_gt_ns hv (srt sY j q xb b (by omega) hxb hq)
        rw [hab] at h3
        exact absurd h3 (by decide)
theorem c_sh {Z : Nat → Prop} {w va oa sa pa w2 va2 oa2 sa2 pa2 : Nat} {ov ov2 : Bool} {X Y : sp_X} {fv fv2 : Nat → Option Nat} (hd : 53 ≤ d) (hw : σ.1 w = some (cLs va oa sa pa X.length ov)) (hX : X.length ≤ 500) (hva : σ.1 va = some (cA3 fv)) (hit : ∀ i x, X[i]? = some x → ∃ a, fv i = some a ∧ vlz Z σ.1 a x.1) (hh : ∀ x ∈ X, sp_hgt x.1.2 ≤ 16) (hw2 : σ.1 w2 = some (cLs va2 oa2 sa2 pa2 Y.length ov2)) (hY : Y.length ≤ 500) (hva2 : σ.1 va2 = some (cA3 fv2)) (hit2 : ∀ i x, Y[i]? = some x → ∃ a, fv2 i = some a ∧ vlz Z σ.1 a x.1) (sX : sp_so X) (sY : sp_so Y) (h1 : sp_shr X Y → Q (some (.int 1)) σ) (h0 : ¬ sp_shr X Y → Q (some (.int 0)) σ) : AW g (d + 1) 57 (0, [some (.ref w), some (.ref w2), none, none, none], []) σ Q := by
  refine aw_run 4 (F' := (4, [some (.ref w), some (.ref w2), some (.int (nI 0)), some (.int (nI 0)), none], [])) rfl ?_
  exact c_shL hd hw hX hva hit hh hw2 hY hva2 hit2 sX sY h1 h0 (X.length + Y.length) 0 0 none (by omega) (by omega) (by omega) (fun p q a b h => by omega)
/-- Walk's constructor -/
theorem c_wnew {k w m : Nat} {b : Bool} {w0 w1 w2 : Value} (hg : g.1 ≤ k) (hk : σ.1 k = some (.inr (4, [w0, w1, w2]))) (hQ : Q none (am_set σ k (.inr (4, [.ref w, .int (bI b), .ref m])))) : AW g (d + 1) 39 (0, [some (.ref k), some (.ref w), some (.int (bI b)), some (.ref m)], []) σ Q := by
  refine aw_run 1 (F' := (1, [some (.ref k), some (.ref w), some (.int (bI b)), some (.ref m)], [.ref k])) rfl ?_
  refine aw_obj rfl (Nat.le_of_ble_eq_true rfl) (by omega) ?_
  refine aw_run 2 (F' := (6, [some (.ref k), some (.ref w), some (.int (bI b)), some (.ref m)], [.ref w, .ref k])) rfl ?_
  refine aw_put rfl hg hk (Nat.le_of_ble_eq_true rfl) rfl rfl ?_
  refine aw_run 2 (F' := (11, [some (.ref k), some (.ref w), some (.int (bI b)), some (.ref m)], [.int (bI b), .ref k])) rfl ?_
  have hb : narrow (am_ty 4 1) (.int (bI b)) = .int (bI b) := by cases b <;> rfl
  refine aw_put rfl hg (am_set_same _ _ _) (Nat.le_of_ble_eq_true rfl) hb (by cases b <;> rfl) ?_
  rw [am_set_set]
  refine aw_run 2 (F' := (16, [some (.ref k), some (.ref w), some (.int (bI b)), some (.ref m)], [.ref m, .ref k])) rfl ?_
  refine aw_put rfl hg (am_set_same _ _ _) (Nat.le_of_ble_eq_true rfl) rfl rfl ?_
  rw [am_set_set]
  exact aw_vret rfl rfl hQ
end P47
end
section
/-! the object's state, and what its calls answer -/
def sp_ix (x : Int32) (n : Nat) : Option Nat := if x < 0 ∨ nI n ≤ x then none else some x.toNatClampNeg
theorem sp_ix_c (x : Int32) {n : Nat} (hn : n < 2 ^ 31) : ((x < 0 ∨ (¬ x < 0 ∧ nI n ≤ x)) ∧ sp_ix x n = none) ∨ ∃ j, j < n ∧ x = nI j ∧ sp_ix x n = some j := by
  unfold sp_ix
  by_cases h : x < 0
  · exact Or.inl ⟨Or.inl h, if_pos (Or.inl h)⟩
  · by_cases h2 : nI n ≤ x
    · exact Or.inl ⟨Or.inr ⟨h, h2⟩, if_pos (Or.inr h2)⟩
    · rcases pk_ix x hn with z | z | ⟨j, hj, rfl⟩
      · exact absurd z h
      · exact absurd z h2
      · refine Or.inr ⟨j, hj, rfl, ?_⟩
        rw [if_neg (fun z => by rcases z with z | z <;> contradiction), nI_clamp (by omega)]
/-- tape, how many are on it, slots, lists, path -/
abbrev sp_S := (Nat → Nat) × Nat × (Nat → sp_F) × (Nat → sp_X) × List (List Nat)
def sp_dv (F : sp_F) : sp_V := ((3, [], 0, []), F)
/-- what is not changed any more -/
def Zc (g : Nat × Nat) (b R hi : Nat) : Nat → Prop := fun a => a = g.2 ∨ (b + 3 ≤ a ∧ a ≤ b + 6) ∨ a = b + 28 ∨ (b + R ≤ a ∧ a < hi)
theorem Zc.mono {g : Nat × Nat} {b R hi hi' : Nat} (h : hi ≤ hi') : ∀ a, Zc g b R hi a → Zc g b R hi' a := by
  intro a ha
  unfold Zc at ha ⊢
  omega
def lsx (Z : Nat → Prop) (h : Nat → Option am_C) (w : Nat) (X : sp_X) : Prop := ls Z h h w (w + 1) (w + 2) (w + 3) (w + 4) (X, false) ∧ (∀ x ∈ X, sp_hgt x.1.2 ≤ 16) ∧ (∃ fs, h (w + 3) = some (cA3 fs)) ∧ ∃ fp, h (w + 4) = some (cA0 fp)
def CS (g : Nat × Nat) (b R : Nat) (σ : am_H) (S : sp_S) : Prop := g.1 ≤ b ∧ g.2 < g.1 ∧ 29 ≤ R ∧ b + R ≤ σ.2.1 ∧ wf σ ∧ bya σ.1 g.2 [] ∧ S.2.1 ≤ 2000 ∧ byf σ.1 (b + 1) 2000 S.1 ∧
  (∃ st : Option Nat, σ.1 b = some (.inr (0, [.ref (b + 1), .int (nI S.2.1), .ref (b + 2), .ref (b + 7), .ref (b + 18), .ref (b + 23), .ref (b + 28), va_rf st])) ∧ stc (Zc g b R σ.2.1) σ.1 S.2.2.2.2 st) ∧
  (∃ fs : Nat → Option Nat, σ.1 (b + 2) = some (.inl (3, 4, .inr (.inr (.inr (.inr fs))))) ∧ ∀ i, i < 4 → sp_hgt (S.2.2.1 i) ≤ 16 ∧ ∃ a, fs i = some a ∧ vlz (Zc g b R σ.2.1) σ.1 a (sp_dv (S.2.2.1 i))) ∧
  (∃ fl : Nat → Option Nat, σ.1 (b + 7) = some (.inl (4, 2, .inr (.inr (.inr (.inr fl))))) ∧ ∀ i, i < 2 → fl i = some (b + 8 + 5 * i)) ∧
  (∀ i, i < 2 → lsx (Zc g b R σ.2.1) σ.1 (b + 8 + 5 * i) (S.2.2.2.1 i)) ∧ (∃ X, lsx (Zc g b R σ.2.1) σ.1 (b + 18) X) ∧ (∃ X, lsx (Zc g b R σ.2.1) σ.1 (b + 23) X) ∧ vlz (Zc g b R σ.2.1) σ.1 (b + 28) sp_miss
def sp_compare (S : sp_S) (r s : Int32) : Int32 := match sp_ix r 4, sp_ix s 4 with
  | some i, some j => sp_vc (sp_dv (S.2.2.1 i)) (sp_dv (S.2.2.1 j))
  | _, _ => -2
def sp_at (S : sp_S) (which k : Int32) : Option sp_I := match sp_ix which 2 with
  | none => none
  | some i => match sp_ix k (S.2.2.2.1 i).length with
    | none => none
    | some j => (S.2.2.2.1 i)[j]?
def sp_value (S : sp_S) (which k what : Int32) : Int64 := match sp_at S which k with
  | none => -1
  | some x => if what = 0 then lN x.1.1.1 else if what = 1 then lN (sp_cls x.1.1.1) else if what = 2 then Int64.ofInt x.1.1.2.2.1 else if what = 3 then lN (x.1.1.2.2.2.length + sp_len x.1.2) else -1
def sp_text (S : sp_S) (which k i : Int32) : Int32 := match sp_at S which k with
  | none => -1
  | some x => match sp_ix i x.1.1.2.2.2.length with
    | none => -1
    | some j => nI (x.1.1.2.2.2.getD j 0)
def sp_between (S : sp_S) (k j : Int32) : Int32 := match sp_at S 0 k, sp_at S 1 j with
  | some a, some b => sp_vc a.1 b.1
  | _, _ => -2
def sp_from (S : sp_S) (which k : Int32) : Int32 := match sp_at S which k with
  | none => -1
  | some x => nI x.2
section P48
variable {g : Nat × Nat} {d b R : Nat} {σ : am_H} {S : sp_S} {Q : Option Value → am_H → Prop}
/-- isSlot -/
theorem c_slot (hC : CS g b R σ S) (r : Int32) (h1 : ∀ j, j < 4 → r = nI j → sp_ix r 4 = some j → Q (some (.int 1)) σ) (h0 : sp_ix r 4 = none → Q (some (.int 0)) σ) : AW g d 7 (0, [some (.ref b), some (.int r)], []) σ Q := by
  obtain ⟨-, -, -, -, -, -, -, -, ⟨st, ho, -⟩, ⟨fs, hs, -⟩, -⟩ := hC
  refine aw_run 1 (F' := (1, [some (.ref b), some (.int r)], [.int r])) rfl ?_
  have no : sp_ix r 4 = none → AW g d 7 (17, [some (.ref b), some (.int r)], []) σ Q := by
    intro q
    refine aw_run 1 (F' := (18, [some (.ref b), some (.int r)], [.int 0])) rfl ?_
    exact aw_iret rfl ⟨_, rfl, rfl⟩ (h0 q)
  rcases sp_ix_c r (n := 4) (by omega) with ⟨q | ⟨q, q2⟩, e⟩ | ⟨j, hj, rfl, e⟩
  · exact aw_zlt rfl (fun _ => no e) (fun z => absurd q z)
  · refine aw_zlt rfl (fun z => absurd z q) (fun _ => ?_)
    refine aw_run 2 (F' := (6, [some (.ref b), some (.int r)], [.ref b, .int r])) rfl ?_
    refine aw_get rfl ho rfl ?_
    refine aw_lenq rfl hs (by decide) ?_
    exact aw_cge rfl (fun _ => no e) (fun z => absurd q2 z)
  · refine aw_zlt rfl (fun z => absurd z (nI_pos (by omega))) (fun _ => ?_)
    refine aw_run 2 (F' := (6, [some (.ref b), some (.int (nI j))], [.ref b, .int (nI j)])) rfl ?_
    refine aw_get rfl ho rfl ?_
    refine aw_lenq rfl hs (by decide) ?_
    refine aw_cge rfl (fun z => absurd ((nI_leI (a := 4) (by omega) (by omega)).mp z) (by omega)) (fun _ => ?_)
    refine aw_run 2 (F' := (18, [some (.ref b), some (.int (nI j))], [.int 1])) rfl ?_
    exact aw_iret rfl ⟨_, rfl, rfl⟩ (h1 j hj rfl e)
/-- isList -/
theorem c_isl (hC : CS g b R σ S) (r : Int32) (h1 : ∀ j, j < 2 → r = nI j → sp_ix r 2 = some j → Q (some (.int 1)) σ) (h0 : sp_ix r 2 = none → Q (some (.int 0)) σ) : AW g d 36 (0, [some (.ref b), some (.int r)], []) σ Q := by
  obtain ⟨-, -, -, -, -, -, -, -, ⟨st, ho, -⟩, -, ⟨fs, hs, -⟩, -⟩ := hC
  refine aw_run 1 (F' := (1, [some (.ref b), some (.int r)], [.int r])) rfl ?_
  have no : sp_ix r 2 = none → AW g d 36 (17, [some (.ref b), some (.int r)], []) σ Q := by
    intro q
    refine aw_run 1 (F' := (18, [some (.ref b), some (.int r)], [.int 0])) rfl ?_
    exact aw_iret rfl ⟨_, rfl, rfl⟩ (h0 q)
  rcases sp_ix_c r (n := 2) (by omega) with ⟨q | ⟨q, q2⟩, e⟩ | ⟨j, hj, rfl, e⟩
  · exact aw_zlt rfl (fun _ => no e) (fun z => absurd q z)
  · refine aw_zlt rfl (fun z => absurd z q) (fun _ => ?_)
    refine aw_run 2 (F' := (6, [some (.ref b), some (.int r)], [.ref b, .int r])) rfl ?_
    refine aw_get rfl ho rfl ?_
    refine aw_lenq rfl hs (by decide) ?_
    exact aw_cge rfl (fun _ => no e) (fun z => absurd q2 z)
  · refine aw_zlt rfl (fun z => absurd z (nI_pos (by omega))) (fun _ => ?_)
    refine aw_run 2 (F' := (6, [some (.ref b), some (.int (nI j))], [.ref b, .int (nI j)])) rfl ?_
    refine aw_get rfl ho rfl ?_
    refine aw_lenq rfl hs (by decide) ?_
    refine aw_cge rfl (fun z => absurd ((nI_leI (a := 2) (by omega) (by omega)).mp z) (by omega)) (fun _ => ?_)
    refine aw_run 2 (F' := (18, [some (.ref b), some (.int (nI j))], [.int 1])) rfl ?_
    exact aw_iret rfl ⟨_, rfl, rfl⟩ (h1 j hj rfl e)
/-- isOnTape -/
theorem c_tap (hC : CS g b R σ S) (r : Int32) (h1 : ∀ j, j ≤ S.2.1 → r = nI j → sp_ix r (S.2.1 + 1) = some j → Q (some (.int 1)) σ) (h0 : sp_ix r (S.2.1 + 1) = none → Q (some (.int 0)) σ) : AW g d 8 (0, [some (.ref b), some (.int r)], []) σ Q := by
  obtain ⟨-, -, -, -, -, -, hfed, -, ⟨st, ho, -⟩, -⟩ := hC
  refine aw_run 1 (F' := (1, [some (.ref b), some (.int r)], [.int r])) rfl ?_
  have no : sp_ix r (S.2.1 + 1) = none → AW g d 8 (16, [some (.ref b), some (.int r)], []) σ Q := by
    intro q
    refine aw_run 1 (F' := (17, [some (.ref b), some (.int r)], [.int 0])) rfl ?_
    exact aw_iret rfl ⟨_, rfl, rfl⟩ (h0 q)
  rcases sp_ix_c r (n := S.2.1 + 1) (by omega) with ⟨q | ⟨q, q2⟩, e⟩ | ⟨j, hj, rfl, e⟩
  · exact aw_zlt rfl (fun _ => no e) (fun z => absurd q z)
  · refine aw_zlt rfl (fun z => absurd z q) (fun _ => ?_)
    refine aw_run 2 (F' := (6, [some (.ref b), some (.int r)], [.ref b, .int r])) rfl ?_
    refine aw_get rfl ho rfl ?_
    refine aw_cgt rfl (fun _ => no e) (fun z => absurd (Int32.lt_of_lt_of_le (nI_lt (Nat.lt_succ_self _) (by omega)) q2) z)
  · refine aw_zlt rfl (fun z => absurd z (nI_pos (by omega))) (fun _ => ?_)
    refine aw_run 2 (F' := (6, [some (.ref b), some (.int (nI j))], [.ref b, .int (nI j)])) rfl ?_
    refine aw_get rfl ho rfl ?_
    refine aw_cgt rfl (fun z => absurd ((nI_ltI (by omega) (by omega)).mp z) (by omega)) (fun _ => ?_)
    refine aw_run 2 (F' := (17, [some (.ref b), some (.int (nI j))], [.int 1])) rfl ?_
    exact aw_iret rfl ⟨_, rfl, rfl⟩ (h1 j (by omega) rfl e)
/-- compare -/
theorem c_compare (hC : CS g b R σ S) (r s : Int32) (hd : 54 ≤ d) (hQ : Q (some (.int (sp_compare S r s))) σ) : AW g d 31 (0, [some (.ref b), some (.int r), some (.int s)], []) σ Q := by
  obtain ⟨d, rfl⟩ : ∃ d', d = d' + 1 := ⟨d - 1, by omega⟩
  have hC' := hC
  obtain ⟨-, -, -, -, -, -, -, -, ⟨st, ho, -⟩, ⟨fs, hs, hsl⟩, -⟩ := hC'
  have no : sp_compare S r s = -2 → AW g (d + 1) 31 (16, [some (.ref b), some (.int r), some (.int s)], []) σ Q := by
    intro q
    rw [q] at hQ
    refine aw_run 1 (F' := (18, [some (.ref b), some (.int r), some (.int s)], [.int (-2)])) rfl ?_
    exact aw_iret rfl ⟨_, rfl, rfl⟩ hQ
  refine aw_run 2 (F' := (2, [some (.ref b), some (.int r), some (.int s)], [.int r, .ref b])) rfl ?_
  refine aw_v [.ref b, .int r] [] rfl (by decide) rfl ho rfl rfl (Nat.le_of_ble_eq_true rfl) (Nat.le_of_ble_eq_true rfl) ?_
  refine c_slot hC r (fun i hi er ei => ?_) (fun e => ?_)
  rotate_left
  · exact aw_zeq rfl (fun _ => no (by unfold sp_compare; rw [e])) (fun z => absurd rfl z)
  refine aw_zeq rfl (fun z => absurd z (by decide)) (fun _ => ?_)
  refine aw_run 2 (F' := (10, [some (.ref b), some (.int r), some (.int s)], [.int s, .ref b])) rfl ?_
  refine aw_v [.ref b, .int s] [] rfl (by decide) rfl ho rfl rfl (Nat.le_of_ble_eq_true rfl) (Nat.le_of_ble_eq_true rfl) ?_
  refine c_slot hC s (fun j hj es ej => ?_) (fun e => ?_)
  rotate_left
  · exact aw_zne rfl (fun z => absurd rfl z) (fun _ => no (by unfold sp_compare; rw [e, ei]))
  refine aw_zne rfl (fun _ => ?_) (fun z => absurd (by decide) z)
  have hr : sp_compare S r s = sp_vc (sp_dv (S.2.2.1 i)) (sp_dv (S.2.2.1 j)) := by unfold sp_compare; rw [ei, ej]
  rw [hr] at hQ
  subst er
  subst es
  obtain ⟨hh1, x, hx1, hx2⟩ := hsl i hi
  obtain ⟨hh2, y, hy1, hy2⟩ := hsl j hj
  refine aw_run 1 (F' := (20, [some (.ref b), some (.int (nI i)), some (.int (nI j))], [.ref b])) rfl ?_
  refine aw_get rfl ho rfl ?_
  refine aw_run 1 (F' := (24, [some (.ref b), some (.int (nI i)), some (.int (nI j))], [.int (nI i), .ref (b + 2)])) rfl ?_
  refine aw_aald rfl (by decide) hs (vp_in_nI hi (by omega)) ?_
  rw [nI_clamp (by omega), hx1]
  refine aw_run 1 (F' := (26, [some (.ref b), some (.int (nI i)), some (.int (nI j))], [.ref b, .ref x])) rfl ?_
  refine aw_get rfl ho rfl ?_
  refine aw_run 1 (F' := (30, [some (.ref b), some (.int (nI i)), some (.int (nI j))], [.int (nI j), .ref (b + 2), .ref x])) rfl ?_
  refine aw_aald rfl (by decide) hs (vp_in_nI hj (by omega)) ?_
  rw [nI_clamp (by omega), hy1]
  refine aw_run 1 (F' := (32, [some (.ref b), some (.int (nI i)), some (.int (nI j))], [.int (nI 1), .ref y, .ref x])) rfl ?_
  refine aw_s [.ref x, .ref y, .int (nI 1)] [] rfl ⟨by decide, by decide⟩ rfl rfl (Nat.le_of_ble_eq_true rfl) (Nat.le_of_ble_eq_true rfl) ?_
  refine c_ofValues hx2.vl hy2.vl (by show 1 + sp_hgt (S.2.2.1 i) ≤ 17; omega) (by show 3 * sp_hgt (S.2.2.1 i) + 5 ≤ d; omega) ?_
  exact aw_iret rfl ⟨_, rfl, rfl⟩ hQ
/-- valueInList -/
theorem c_vil (hC : CS g b R σ S) (which k : Int32) (h0 : sp_at S which k = none → Q (some .null) σ) (h1 : ∀ (x : sp_I) (a : Nat), sp_at S which k = some x → vlz (Zc g b R σ.2.1) σ.1 a x.1 → sp_hgt x.1.2 ≤ 16 → Q (some (.ref a)) σ) : AW g (d + 1) 46 (0, [some (.ref b), some (.int which), some (.int k)], []) σ Q := by
  have hC' := hC
  obtain ⟨-, -, -, -, -, -, -, -, ⟨st, ho, -⟩, -, ⟨fl, hl, hfl⟩, hls, -⟩ := hC'
  refine aw_run 2 (F' := (2, [some (.ref b), some (.int which), some (.int k)], [.int which, .ref b])) rfl ?_
  refine aw_v [.ref b, .int which] [] rfl (by decide) rfl ho rfl rfl (Nat.le_of_ble_eq_true rfl) (Nat.le_of_ble_eq_true rfl) ?_
  refine c_isl hC which (fun i hi er ei => ?_) (fun e => ?_)
  rotate_left
  · refine aw_zeq rfl (fun _ => ?_) (fun z => absurd rfl z)
    refine aw_run 1 (F' := (22, [some (.ref b), some (.int which), some (.int k)], [.null])) rfl ?_
    exact aw_nret rfl ⟨_, rfl, Or.inl ⟨_, rfl⟩⟩ (h0 (by unfold sp_at; rw [e]))
  refine aw_zeq rfl (fun z => absurd z (by decide)) (fun _ => ?_)
  subst er
  obtain ⟨⟨hlen, fv, fo, hw, hva, hoa, hit⟩, hh, -, -⟩ := hls i hi
  have hat : sp_at S (nI i) k = (match sp_ix k (S.2.2.2.1 i).length with
    | none => none
    | some j => (S.2.2.2.1 i)[j]?) := by unfold sp_at; rw [ei]
  dsimp only at hlen hw
  refine aw_run 1 (F' := (9, [some (.ref b), some (.int (nI i)), some (.int k)], [.ref b])) rfl ?_
  refine aw_get rfl ho rfl ?_
  refine aw_run 1 (F' := (13, [some (.ref b), some (.int (nI i)), some (.int k)], [.int (nI i), .ref (b + 7)])) rfl ?_
  refine aw_aald rfl (by decide) hl (vp_in_nI hi (by omega)) ?_
  rw [nI_clamp (by omega), hfl i hi]
  refine aw_run 1 (F' := (15, [some (.ref b), some (.int (nI i)), some (.int k)], [.int k, .ref (b + 8 + 5 * i)])) rfl ?_
  refine aw_v [.ref (b + 8 + 5 * i), .int k] [] rfl (by decide) rfl hw rfl rfl (Nat.le_of_ble_eq_true rfl) (Nat.le_of_ble_eq_true rfl) ?_
  have nul : sp_ix k (S.2.2.2.1 i).length = none → AW g d 47 (21, [some (.ref (b + 8 + 5 * i)), some (.int k)], []) σ (fun (v : Option Value) (σ' : am_H) => AW g (d + 1) 46 (15 + 3, [some (.ref b), some (.int (nI i)), some (.int k)], v.toList ++ []) σ' Q) := by
    intro e
    rw [e] at hat
    refine aw_run 1 (F' := (22, [some (.ref (b + 8 + 5 * i)), some (.int k)], [.null])) rfl ?_
    refine aw_nret rfl ⟨_, rfl, Or.inl ⟨_, rfl⟩⟩ ?_
    refine aw_run 1 (F' := (22, [some (.ref b), some (.int (nI i)), some (.int k)], [.null])) rfl ?_
    exact aw_nret rfl ⟨_, rfl, Or.inl ⟨_, rfl⟩⟩ (h0 hat)
  rcases sp_ix_c k (n := (S.2.2.2.1 i).length) (by omega) with ⟨q | ⟨q, q2⟩, e⟩ | ⟨j, hj, rfl, e⟩
  · refine aw_run 1 (F' := (1, [some (.ref (b + 8 + 5 * i)), some (.int k)], [.int k])) rfl ?_
    exact aw_zlt rfl (fun _ => nul e) (fun z => absurd q z)
  · refine aw_run 1 (F' := (1, [some (.ref (b + 8 + 5 * i)), some (.int k)], [.int k])) rfl ?_
    refine aw_zlt rfl (fun z => absurd z q) (fun _ => ?_)
    refine aw_run 2 (F' := (6, [some (.ref (b + 8 + 5 * i)), some (.int k)], [.ref (b + 8 + 5 * i), .int k])) rfl ?_
    refine aw_get rfl hw rfl ?_
    exact aw_cge rfl (fun _ => nul e) (fun z => absurd q2 z)
  · rw [e] at hat
    dsimp only at hat
    have hx := List.getElem?_eq_getElem hj
    generalize (S.2.2.2.1 i)[j] = x at hx
    obtain ⟨a, ha1, ha2, ha3⟩ := hit j x.1 x.2 hx
    refine c_vat (N := (S.2.2.2.1 i).length) (ov := false) hw hva hj hlen ha1 ?_
    refine aw_run 1 (F' := (22, [some (.ref b), some (.int (nI i)), some (.int (nI j))], [.ref a])) rfl ?_
    exact aw_aret rfl ⟨_, rfl, Or.inl ⟨_, rfl⟩⟩ (h1 x a (hat.trans hx) ha2 (hh x (List.mem_of_getElem? hx)))
end P48
end
section
theorem sb_255 : ∀ x, x < 256 → sb_b x &&& 255 = nI x := by decide +kernel
section P49
variable {g : Nat × Nat} {d b R : Nat} {σ : am_H} {S : sp_S} {Q : Option Value → am_H → Prop}
/-- value -/
theorem c_value (hC : CS g b R σ S) (which k what : Int32) (hQ : Q (some (.long (sp_value S which k what))) σ) : AW g (d + 2) 45 (0, [some (.ref b), some (.int which), some (.int k), some (.int what), none], []) σ Q := by
  have hC' := hC
  obtain ⟨-, -, -, -, -, -, -, -, ⟨st, ho, -⟩, -⟩ := hC'
  refine aw_run 3 (F' := (3, [some (.ref b), some (.int which), some (.int k), some (.int what), none], [.int k, .int which, .ref b])) rfl ?_
  refine aw_v [.ref b, .int which, .int k] [] rfl (by decide) rfl ho rfl rfl (Nat.le_of_ble_eq_true rfl) (Nat.le_of_ble_eq_true rfl) ?_
  refine c_vil hC which k (fun e => ?_) (fun x a e hv hh => ?_)
  · have hr : sp_value S which k what = -1 := by unfold sp_value; rw [e]
    rw [hr] at hQ
    refine aw_run 2 (F' := (10, [some (.ref b), some (.int which), some (.int k), some (.int what), some .null], [.null])) rfl ?_
    refine aw_ifnon_n rfl ?_
    refine aw_run 1 (F' := (16, [some (.ref b), some (.int which), some (.int k), some (.int what), some .null], [.long (-1)])) rfl ?_
    exact aw_lret rfl rfl hQ
  · have hr : sp_value S which k what = (if what = 0 then lN x.1.1.1 else if what = 1 then lN (sp_cls x.1.1.1) else if what = 2 then Int64.ofInt x.1.1.2.2.1 else if what = 3 then lN (x.1.1.2.2.2.length + sp_len x.1.2) else -1) := by unfold sp_value; rw [e]
    rw [hr] at hQ
    obtain ⟨-, fi, la, nx, hn, -⟩ := hv
    have hn' := hn
    obtain ⟨hk, hcnt, na, ba, num, -, -, hc, hnum, -, -⟩ := hn'
    have hk18 : x.1.1.1 < 19 := by unfold kd at hk; omega
    have hcl : sp_cls x.1.1.1 < 7 := by
      unfold sp_cls
      repeat' split
      all_goals omega
    refine aw_run 2 (F' := (10, [some (.ref b), some (.int which), some (.int k), some (.int what), some (.ref a)], [.ref a])) rfl ?_
    refine aw_ifnon_r rfl ?_
    refine aw_run 1 (F' := (18, [some (.ref b), some (.int which), some (.int k), some (.int what), some (.ref a)], [.int what])) rfl ?_
    by_cases w0 : what = 0
    · rw [if_pos w0] at hQ
      subst w0
      refine aw_tsw 48 rfl (Or.inr ⟨by decide, by decide, _, rfl, by decide⟩) ?_
      refine aw_run 1 (F' := (50, [some (.ref b), some (.int which), some (.int k), some (.int 0), some (.ref a)], [.ref a])) rfl ?_
      refine aw_get rfl hc rfl ?_
      refine aw_run 1 (F' := (54, [some (.ref b), some (.int which), some (.int k), some (.int 0), some (.ref a)], [.long (Int32.toInt64 (nI x.1.1.1))])) rfl ?_
      rw [nI_l (by omega)]
      exact aw_lret rfl rfl hQ
    rw [if_neg w0] at hQ
    by_cases w1 : what = 1
    · rw [if_pos w1] at hQ
      subst w1
      refine aw_tsw 55 rfl (Or.inr ⟨by decide, by decide, _, rfl, by decide⟩) ?_
      refine aw_run 1 (F' := (57, [some (.ref b), some (.int which), some (.int k), some (.int 1), some (.ref a)], [.ref a])) rfl ?_
      refine aw_v [.ref a] [] rfl (by decide) rfl hc rfl rfl (Nat.le_of_ble_eq_true rfl) (Nat.le_of_ble_eq_true rfl) ?_
      refine c_rank hn.nd ?_
      refine aw_run 1 (F' := (61, [some (.ref b), some (.int which), some (.int k), some (.int 1), some (.ref a)], [.long (Int32.toInt64 (nI (sp_cls x.1.1.1)))])) rfl ?_
      rw [nI_l (by omega)]
      exact aw_lret rfl rfl hQ
    rw [if_neg w1] at hQ
    by_cases w2 : what = 2
    · rw [if_pos w2] at hQ
      subst w2
      refine aw_tsw 62 rfl (Or.inr ⟨by decide, by decide, _, rfl, by decide⟩) ?_
      refine aw_run 1 (F' := (64, [some (.ref b), some (.int which), some (.int k), some (.int 2), some (.ref a)], [.ref a])) rfl ?_
      refine aw_get rfl hc rfl ?_
      rw [← hnum, Int64.ofInt_toInt] at hQ
      exact aw_lret rfl rfl hQ
    rw [if_neg w2] at hQ
    by_cases w3 : what = 3
    · rw [if_pos w3] at hQ
      subst w3
      refine aw_tsw 68 rfl (Or.inr ⟨by decide, by decide, _, rfl, by decide⟩) ?_
      refine aw_run 1 (F' := (70, [some (.ref b), some (.int which), some (.int k), some (.int 3), some (.ref a)], [.ref a])) rfl ?_
      refine aw_get rfl hc rfl ?_
      refine aw_run 1 (F' := (74, [some (.ref b), some (.int which), some (.int k), some (.int 3), some (.ref a)], [.long (Int32.toInt64 (nI (x.1.1.2.2.2.length + sp_len x.1.2)))])) rfl ?_
      rw [nI_l (by omega)]
      exact aw_lret rfl rfl hQ
    rw [if_neg w3] at hQ
    have hsw : am_tsw 18 57 0 3 #[30, 37, 44, 50] what 75 := by
      refine Or.inl ⟨?_, by decide⟩
      by_cases h : what.toInt < 0
      · exact Or.inl h
      · refine Or.inr ?_
        by_cases h2 : 3 < what.toInt
        · exact h2
        · rcases (by omega : what.toInt = 0 ∨ what.toInt = 1 ∨ what.toInt = 2 ∨ what.toInt = 3) with e | e | e | e
          · exact absurd (Int32.toInt_inj.mp (e.trans (by decide : (0 : Int) = (0 : Int32).toInt))) w0
          · exact absurd (Int32.toInt_inj.mp (e.trans (by decide : (1 : Int) = (1 : Int32).toInt))) w1
          · exact absurd (Int32.toInt_inj.mp (e.trans (by decide : (2 : Int) = (2 : Int32).toInt))) w2
          · exact absurd (Int32.toInt_inj.mp (e.trans (by decide : (3 : Int) = (3 : Int32).toInt))) w3
    refine aw_tsw 75 rfl hsw ?_
    refine aw_run 1 (F' := (78, [some (.ref b), some (.int which), some (.int k), some (.int what), some (.ref a)], [.long (-1)])) rfl ?_
    exact aw_lret rfl rfl hQ
/-- text -/
theorem c_text (hC : CS g b R σ S) (which k i : Int32) (hQ : Q (some (.int (sp_text S which k i))) σ) : AW g (d + 2) 48 (0, [some (.ref b), some (.int which), some (.int k), some (.int i), none], []) σ Q := by
  have hC' := hC
  obtain ⟨-, -, -, -, -, -, -, -, ⟨st, ho, -⟩, -⟩ := hC'
  refine aw_run 3 (F' := (3, [some (.ref b), some (.int which), some (.int k), some (.int i), none], [.int k, .int which, .ref b])) rfl ?_
  refine aw_v [.ref b, .int which, .int k] [] rfl (by decide) rfl ho rfl rfl (Nat.le_of_ble_eq_true rfl) (Nat.le_of_ble_eq_true rfl) ?_
  refine c_vil hC which k (fun e => ?_) (fun x a e hv hh => ?_)
  · have hr : sp_text S which k i = -1 := by unfold sp_text; rw [e]
    rw [hr] at hQ
    refine aw_run 2 (F' := (10, [some (.ref b), some (.int which), some (.int k), some (.int i), some .null], [.null])) rfl ?_
    refine aw_ifnull_n rfl ?_
    refine aw_run 1 (F' := (28, [some (.ref b), some (.int which), some (.int k), some (.int i), some .null], [.int (-1)])) rfl ?_
    exact aw_iret rfl ⟨_, rfl, rfl⟩ hQ
  · have hr : sp_text S which k i = (match sp_ix i x.1.1.2.2.2.length with
      | none => -1
      | some j => nI (x.1.1.2.2.2.getD j 0)) := by unfold sp_text; rw [e]; rfl
    rw [hr] at hQ
    obtain ⟨-, fi, la, nx, ⟨hk, hcnt, na, ba, num, -, -, hc, hnum, -, hba⟩, -⟩ := hv
    obtain ⟨hl1, hl2, f, hbc, hbf⟩ := hba
    refine aw_run 2 (F' := (10, [some (.ref b), some (.int which), some (.int k), some (.int i), some (.ref a)], [.ref a])) rfl ?_
    refine aw_ifnull_r rfl ?_
    refine aw_run 1 (F' := (14, [some (.ref b), some (.int which), some (.int k), some (.int i), some (.ref a)], [.int i])) rfl ?_
    have nul : sp_ix i x.1.1.2.2.2.length = none → AW g (d + 2) 48 (27, [some (.ref b), some (.int which), some (.int k), some (.int i), some (.ref a)], []) σ Q := by
      intro q
      rw [q] at hQ
      refine aw_run 1 (F' := (28, [some (.ref b), some (.int which), some (.int k), some (.int i), some (.ref a)], [.int (-1)])) rfl ?_
      exact aw_iret rfl ⟨_, rfl, rfl⟩ hQ
    rcases sp_ix_c i (n := x.1.1.2.2.2.length) (by omega) with ⟨q | ⟨q, q2⟩, e⟩ | ⟨j, hj, rfl, e⟩
    · exact aw_zlt rfl (fun _ => nul e) (fun z => absurd q z)
    · refine aw_zlt rfl (fun z => absurd z q) (fun _ => ?_)
      refine aw_run 2 (F' := (20, [some (.ref b), some (.int which), some (.int k), some (.int i), some (.ref a)], [.ref a, .int i])) rfl ?_
      refine aw_get rfl hc rfl ?_
      refine aw_len rfl hbc (by decide) ?_
      exact aw_clt rfl (fun z => absurd (Int32.lt_of_lt_of_le z q2) (fun y => Int32.lt_irrefl y)) (fun _ => nul e)
    · rw [e] at hQ
      refine aw_zlt rfl (fun z => absurd z (nI_pos (by omega))) (fun _ => ?_)
      refine aw_run 2 (F' := (20, [some (.ref b), some (.int which), some (.int k), some (.int (nI j)), some (.ref a)], [.ref a, .int (nI j)])) rfl ?_
      refine aw_get rfl hc rfl ?_
      refine aw_len rfl hbc (by decide) ?_
      refine aw_clt rfl (fun _ => ?_) (fun z => absurd (nI_lt hj (by omega)) z)
      refine aw_run 1 (F' := (31, [some (.ref b), some (.int which), some (.int k), some (.int (nI j)), some (.ref a)], [.ref a])) rfl ?_
      refine aw_get rfl hc rfl ?_
      refine aw_run 1 (F' := (35, [some (.ref b), some (.int which), some (.int k), some (.int (nI j)), some (.ref a)], [.int (nI j), .ref ba])) rfl ?_
      refine aw_bald rfl hbc (vp_in_nI hj (by omega)) ?_
      rw [nI_clamp (by omega), hbf j hj]
      refine aw_run 2 (F' := (40, [some (.ref b), some (.int which), some (.int k), some (.int (nI j)), some (.ref a)], [.int (sb_b (x.1.1.2.2.2.getD j 0) &&& 255)])) rfl ?_
      have hlt : x.1.1.2.2.2.getD j 0 < 256 := by
        rw [List.getD_eq_getElem?_getD, List.getElem?_eq_getElem hj]
        exact hl2 _ (List.getElem_mem hj)
      rw [sb_255 _ hlt]
      exact aw_iret rfl ⟨_, rfl, rfl⟩ hQ
/-- between -/
theorem c_between (hC : CS g b R σ S) (k j : Int32) (hd : 54 ≤ d) (hQ : Q (some (.int (sp_between S k j))) σ) : AW g d 49 (0, [some (.ref b), some (.int k), some (.int j), none, none], []) σ Q := by
  obtain ⟨d, rfl⟩ : ∃ d', d = d' + 2 := ⟨d - 2, by omega⟩
  have hC' := hC
  obtain ⟨-, -, -, -, -, -, -, -, ⟨st, ho, -⟩, -⟩ := hC'
  refine aw_run 3 (F' := (3, [some (.ref b), some (.int k), some (.int j), none, none], [.int k, .int 0, .ref b])) rfl ?_
  refine aw_v [.ref b, .int 0, .int k] [] rfl (by decide) rfl ho rfl rfl (Nat.le_of_ble_eq_true rfl) (Nat.le_of_ble_eq_true rfl) ?_
  refine c_vil hC 0 k (fun e => ?_) (fun x a e hv hh => ?_)
  · have hr : sp_between S k j = -2 := by unfold sp_between; rw [e]
    rw [hr] at hQ
    refine aw_run 4 (F' := (10, [some (.ref b), some (.int k), some (.int j), some .null, none], [.int j, .int 1, .ref b])) rfl ?_
    refine aw_v [.ref b, .int 1, .int j] [] rfl (by decide) rfl ho rfl rfl (Nat.le_of_ble_eq_true rfl) (Nat.le_of_ble_eq_true rfl) ?_
    refine c_vil hC 1 j (fun e2 => ?_) (fun y a2 e2 hv2 hh2 => ?_)
    · refine aw_run 2 (F' := (16, [some (.ref b), some (.int k), some (.int j), some .null, some .null], [.null])) rfl ?_
      refine aw_ifnull_n rfl ?_
      refine aw_run 1 (F' := (26, [some (.ref b), some (.int k), some (.int j), some .null, some .null], [.int (-2)])) rfl ?_
      exact aw_iret rfl ⟨_, rfl, rfl⟩ hQ
    · refine aw_run 2 (F' := (16, [some (.ref b), some (.int k), some (.int j), some .null, some (.ref a2)], [.null])) rfl ?_
      refine aw_ifnull_n rfl ?_
      refine aw_run 1 (F' := (26, [some (.ref b), some (.int k), some (.int j), some .null, some (.ref a2)], [.int (-2)])) rfl ?_
      exact aw_iret rfl ⟨_, rfl, rfl⟩ hQ
  · refine aw_run 4 (F' := (10, [some (.ref b), some (.int k), some (.int j), some (.ref a), none], [.int j, .int 1, .ref b])) rfl ?_
    refine aw_v [.ref b, .int 1, .int j] [] rfl (by decide) rfl ho rfl rfl (Nat.le_of_ble_eq_true rfl) (Nat.le_of_ble_eq_true rfl) ?_
    refine c_vil hC 1 j (fun e2 => ?_) (fun y a2 e2 hv2 hh2 => ?_)
    · have hr : sp_between S k j = -2 := by unfold sp_between; rw [e, e2]
      rw [hr] at hQ
      refine aw_run 2 (F' := (16, [some (.ref b), some (.int k), some (.int j), some (.ref a), some .null], [.ref a])) rfl ?_
      refine aw_ifnull_r rfl ?_
      refine aw_run 1 (F' := (21, [some (.ref b), some (.int k), some (.int j), some (.ref a), some .null], [.null])) rfl ?_
      refine aw_ifnon_n rfl ?_
      refine aw_run 1 (F' := (26, [some (.ref b), some (.int k), some (.int j), some (.ref a), some .null], [.int (-2)])) rfl ?_
      exact aw_iret rfl ⟨_, rfl, rfl⟩ hQ
    · have hr : sp_between S k j = sp_vc x.1 y.1 := by unfold sp_between; rw [e, e2]
      rw [hr] at hQ
      refine aw_run 2 (F' := (16, [some (.ref b), some (.int k), some (.int j), some (.ref a), some (.ref a2)], [.ref a])) rfl ?_
      refine aw_ifnull_r rfl ?_
      refine aw_run 1 (F' := (21, [some (.ref b), some (.int k), some (.int j), some (.ref a), some (.ref a2)], [.ref a2])) rfl ?_
      refine aw_ifnon_r rfl ?_
      refine aw_run 3 (F' := (31, [some (.ref b), some (.int k), some (.int j), some (.ref a), some (.ref a2)], [.int (nI 1), .ref a2, .ref a])) rfl ?_
      refine aw_s [.ref a, .ref a2, .int (nI 1)] [] rfl ⟨by decide, by decide⟩ rfl rfl (Nat.le_of_ble_eq_true rfl) (Nat.le_of_ble_eq_true rfl) ?_
      refine c_ofValues hv.vl hv2.vl (by omega) (by omega) ?_
      exact aw_iret rfl ⟨_, rfl, rfl⟩ hQ
/-- from -/
theorem c_from (hC : CS g b R σ S) (which k : Int32) (hQ : Q (some (.int (sp_from S which k))) σ) : AW g (d + 1) 54 (0, [some (.ref b), some (.int which), some (.int k)], []) σ Q := by
  have hC' := hC
  obtain ⟨-, -, -, -, -, -, -, -, ⟨st, ho, -⟩, -, ⟨fl, hl, hfl⟩, hls, -⟩ := hC'
  refine aw_run 2 (F' := (2, [some (.ref b), some (.int which), some (.int k)], [.int which, .ref b])) rfl ?_
  refine aw_v [.ref b, .int which] [] rfl (by decide) rfl ho rfl rfl (Nat.le_of_ble_eq_true rfl) (Nat.le_of_ble_eq_true rfl) ?_
  refine c_isl hC which (fun i hi er ei => ?_) (fun e => ?_)
  rotate_left
  · have hr : sp_from S which k = -1 := by unfold sp_from sp_at; rw [e]
    rw [hr] at hQ
    refine aw_zeq rfl (fun _ => ?_) (fun z => absurd rfl z)
    refine aw_run 1 (F' := (22, [some (.ref b), some (.int which), some (.int k)], [.int (-1)])) rfl ?_
    exact aw_iret rfl ⟨_, rfl, rfl⟩ hQ
  refine aw_zeq rfl (fun z => absurd z (by decide)) (fun _ => ?_)
  subst er
  obtain ⟨⟨hlen, fv, fo, hw, hva, hoa, hit⟩, hh, -, -⟩ := hls i hi
  dsimp only at hlen hw
  refine aw_run 1 (F' := (9, [some (.ref b), some (.int (nI i)), some (.int k)], [.ref b])) rfl ?_
  refine aw_get rfl ho rfl ?_
  refine aw_run 1 (F' := (13, [some (.ref b), some (.int (nI i)), some (.int k)], [.int (nI i), .ref (b + 7)])) rfl ?_
  refine aw_aald rfl (by decide) hl (vp_in_nI hi (by omega)) ?_
  rw [nI_clamp (by omega), hfl i hi]
  refine aw_run 1 (F' := (15, [some (.ref b), some (.int (nI i)), some (.int k)], [.int k, .ref (b + 8 + 5 * i)])) rfl ?_
  refine aw_v [.ref (b + 8 + 5 * i), .int k] [] rfl (by decide) rfl hw rfl rfl (Nat.le_of_ble_eq_true rfl) (Nat.le_of_ble_eq_true rfl) ?_
  refine aw_run 1 (F' := (1, [some (.ref (b + 8 + 5 * i)), some (.int k)], [.int k])) rfl ?_
  have nul : sp_ix k (S.2.2.2.1 i).length = none → AW g d 55 (21, [some (.ref (b + 8 + 5 * i)), some (.int k)], []) σ (fun (v : Option Value) (σ' : am_H) => AW g (d + 1) 54 (15 + 3, [some (.ref b), some (.int (nI i)), some (.int k)], v.toList ++ []) σ' Q) := by
    intro e
    have hr : sp_from S (nI i) k = -1 := by unfold sp_from sp_at; rw [ei]; dsimp only; rw [e]
    rw [hr] at hQ
    refine aw_run 1 (F' := (22, [some (.ref (b + 8 + 5 * i)), some (.int k)], [.int (-1)])) rfl ?_
    refine aw_iret rfl ⟨_, rfl, rfl⟩ ?_
    refine aw_run 1 (F' := (22, [some (.ref b), some (.int (nI i)), some (.int k)], [.int (-1)])) rfl ?_
    exact aw_iret rfl ⟨_, rfl, rfl⟩ hQ
  rcases sp_ix_c k (n := (S.2.2.2.1 i).length) (by omega) with ⟨q | ⟨q, q2⟩, e⟩ | ⟨j, hj, rfl, e⟩
  · exact aw_zlt rfl (fun _ => nul e) (fun z => absurd q z)
  · refine aw_zlt rfl (fun z => absurd z q) (fun _ => ?_)
    refine aw_run 2 (F' := (6, [some (.ref (b + 8 + 5 * i)), some (.int k)], [.ref (b + 8 + 5 * i), .int k])) rfl ?_
    refine aw_get rfl hw rfl ?_
    exact aw_cge rfl (fun _ => nul e) (fun z => absurd q2 z)
  · have hx := List.getElem?_eq_getElem hj
    generalize (S.2.2.2.1 i)[j] = x at hx
    obtain ⟨a, ha1, ha2, ha3⟩ := hit j x.1 x.2 hx
    have hr : sp_from S (nI i) (nI j) = nI x.2 := by unfold sp_from sp_at; rw [ei]; dsimp only; rw [e]; dsimp only; rw [hx]
    rw [hr] at hQ
    refine aw_zlt rfl (fun z => absurd z (nI_pos (by omega))) (fun _ => ?_)
    refine aw_run 2 (F' := (6, [some (.ref (b + 8 + 5 * i)), some (.int (nI j))], [.ref (b + 8 + 5 * i), .int (nI j)])) rfl ?_
    refine aw_get rfl hw rfl ?_
    refine aw_cge rfl (fun z => absurd ((nI_leI (by omega) (by omega)).mp z) (by omega)) (fun _ => ?_)
    refine aw_run 1 (F' := (13, [some (.ref (b + 8 + 5 * i)), some (.int (nI j))], [.ref (b + 8 + 5 * i)])) rfl ?_
    refine aw_get rfl hw rfl ?_
    refine aw_run 1 (F' := (17, [some (.ref (b + 8 + 5 * i)), some (.int (nI j))], [.int (nI j), .ref (b + 8 + 5 * i + 2)])) rfl ?_
    refine aw_iald rfl hoa (vp_in_nI (by omega) (by omega)) ?_
    rw [nI_clamp (by omega), ha3]
    refine aw_run 1 (F' := (22, [some (.ref (b + 8 + 5 * i)), some (.int (nI j))], [.int (nI x.2)])) rfl ?_
    refine aw_iret rfl ⟨_, rfl, rfl⟩ ?_
    refine aw_run 1 (F' := (22, [some (.ref b), some (.int (nI i)), some (.int (nI j))], [.int (nI x.2)])) rfl ?_
    exact aw_iret rfl ⟨_, rfl, rfl⟩ hQ
end P49
end
section
/-! sort -/
def sp_srt : sp_X → sp_X
  | [] => []
  | x :: X => sp_mrg (X.length + 1) [x] (sp_srt X)
theorem sp_srt_len : ∀ X, (sp_srt X).length = X.length
  | [] => rfl
  | x :: X => by
    unfold sp_srt
    rw [sp_mrg_len, sp_srt_len X]
    simp
    omega
theorem sp_srt_so : ∀ X, sp_so (sp_srt X)
  | [] => List.Pairwise.nil
  | x :: X => sp_mrg_so _ _ _ (by rw [sp_srt_len]; simp; omega) (List.pairwise_singleton _ _) (sp_srt_so X)
theorem sp_srt_eq : ∀ X, sp_eq X (sp_srt X)
  | [] => sp_eq.rf _
  | x :: X => by
    have h1 : sp_eq ([x] ++ X) ([x] ++ sp_srt X) := (sp_eq.rf [x]).app (sp_srt_eq X)
    exact h1.tr (sp_mrg_eq _ _ _ (List.pairwise_singleton _ _))
theorem sp_srt_un {X Y : sp_X} (h1 : sp_so Y) (h2 : sp_eq X Y) : Y = sp_srt X := sp_so_eq h1 (sp_srt_so X) (h2.sy.tr (sp_srt_eq X))
def setl (S : sp_S) (i : Nat) (Y : sp_X) : sp_S := (S.1, S.2.1, S.2.2.1, (fun j => if j = i then Y else S.2.2.2.1 j), S.2.2.2.2)
def sp_sort (S : sp_S) (which : Int32) : sp_S × Int32 := match sp_ix which 2 with
  | none => (S, -1)
  | some i => (setl S i (sp_srt (S.2.2.2.1 i)), nI (sp_cd (sp_srt (S.2.2.2.1 i)) (sp_srt (S.2.2.2.1 i)).length))
/-- what a call of the object leaves as it was, and what it makes -/
def cfr (b R : Nat) (σ σ' : am_H) (K M : Nat) : Prop := (∀ a, a < b ∨ (b + 29 ≤ a ∧ a < b + R) → σ'.1 a = σ.1 a) ∧ σ.2.1 ≤ σ'.2.1 ∧ σ'.2.1 ≤ σ.2.1 + K ∧ σ.2.2 ≤ σ'.2.2 ∧ σ'.2.2 ≤ σ.2.2 + M
theorem cfr.self {b R : Nat} {σ : am_H} : cfr b R σ σ 0 0 := ⟨fun _ _ => rfl, Nat.le_refl _, Nat.le_refl _, Nat.le_refl _, Nat.le_refl _⟩
theorem fw5_of {g : Nat × Nat} {b R hi w : Nat} (h1 : b + 8 ≤ w) (h2 : w + 4 < b + 28) (h3 : g.1 ≤ b) (h4 : g.2 < g.1) (h5 : 29 ≤ R) : fw5 g (Zc g b R hi) w (w + 1) (w + 2) (w + 3) (w + 4) := by
  have nz : ∀ a, w ≤ a → a ≤ w + 4 → ¬ Zc g b R hi a := by
    intro a q1 q2 q
    unfold Zc at q
    omega
  exact ⟨⟨by omega, by omega, by omega, by omega, by omega, by omega, nz _ (by omega) (by omega), nz _ (by omega) (by omega), nz _ (by omega) (by omega)⟩, by omega, by omega, by omega, by omega, by omega, by omega, by omega, by omega, by omega, nz _ (by omega) (by omega), nz _ (by omega) (by omega)⟩
theorem lsx.kept {Z Z' : Nat → Prop} {h h' : Nat → Option am_C} {w : Nat} {X : sp_X} (q : lsx Z h w X) (e : ∀ a, Z a → h' a = h a) (ew : ∀ a, w ≤ a → a ≤ w + 4 → h' a = h a) (hZ : ∀ a, Z a → Z' a) : lsx Z' h' w X := by
  obtain ⟨⟨h1, fv, fo, h2, h3, h4, h5⟩, hh, ⟨fs, h6⟩, ⟨fp, h7⟩⟩ := q
  refine ⟨⟨h1, fv, fo, (ew _ (by omega) (by omega)).trans h2, (ew _ (by omega) (by omega)).trans h3, (ew _ (by omega) (by omega)).trans h4, fun i v o hi => ?_⟩, hh, ⟨fs, (ew _ (by omega) (by omega)).trans h6⟩, ⟨fp, (ew _ (by omega) (by omega)).trans h7⟩⟩
  obtain ⟨a, b1, b2, b3⟩ := h5 i v o hi
  exact ⟨a, b1, b2.kept e hZ, b3⟩
theorem lsx.ast {g : Nat × Nat} {Z : Nat → Prop} {σ σ' : am_H} {w : Nat} {X Y : sp_X} (q : lsx Z σ.1 w X) (hf : fw5 g Z w (w + 1) (w + 2) (w + 3) (w + 4)) (h : ast g Z σ σ' (w + 1) (w + 2) (w + 3) (w + 4) X Y) : lsx Z σ'.1 w Y := by
  obtain ⟨⟨h1, fv, fo, h2, h3, h4, h5⟩, hh, ⟨fs, h6⟩, ⟨fp, h7⟩⟩ := q
  obtain ⟨e1, e2, fv', fo', fs', fp', hm, hit⟩ := h
  have hz := hm.sz hf
  have hwc := hm.sw hf
  obtain ⟨m1, m2, m3, m4, m5, m6⟩ := hm
  dsimp only at h1 h2
  refine ⟨⟨by show Y.length ≤ 500; omega, fv', fo', ?_, m3, m4, fun i v o hi => ?_⟩, fun x hx => hh x (e2.mem hx), ⟨fs', m5⟩, ⟨fp', m6⟩⟩
  · show σ'.1 w = some (.inr (2, [.ref (w + 1), .ref (w + 2), .ref (w + 3), .ref (w + 4), .int (nI Y.length), .int (bI false)]))
    rw [e1]
    exact hwc.trans h2
  · obtain ⟨a, b1, b2, b3⟩ := hit i (v, o) hi
    exact ⟨a, b1, b2.kept hz (fun _ z => z), b3⟩
section P50
variable {g : Nat × Nat} {d b R : Nat} {σ : am_H} {S : sp_S} {Q : Option Value → am_H → Prop}
/-- arrange, for a list of the object -/
theorem c_arrx {Z : Nat → Prop} {w : Nat} {X : sp_X} (hd : 55 ≤ d) (hf : fw5 g Z w (w + 1) (w + 2) (w + 3) (w + 4)) (hl : lsx Z σ.1 w X) (hQ : ∀ σ' : am_H, (∀ a, a < w ∨ w + 4 < a → σ'.1 a = σ.1 a) → σ'.2 = σ.2 → (∀ a, Z a → σ'.1 a = σ.1 a) → lsx Z σ'.1 w (sp_srt X) → Q none σ') : AW g d 51 (0, [some (.ref w), none, none], []) σ Q := by
  have hl' := hl
  obtain ⟨⟨h1, fv, fo, h2, h3, h4, h5⟩, hh, ⟨fs, h6⟩, ⟨fp, h7⟩⟩ := hl'
  refine c_arr hd hf h2 h1 h3 h4 h6 h7 (fun i x hx => ?_) hh (fun σ' Y ha hs => ?_)
  · obtain ⟨a, b1, b2, b3⟩ := h5 i x.1 x.2 hx
    exact ⟨a, b1, b2, b3⟩
  · have hY := sp_srt_un hs ha.2.1
    subst hY
    have ha' := ha
    obtain ⟨e1, e2, fv', fo', fs', fp', hm, hit⟩ := ha'
    exact hQ σ' (fun a h => hm.1 a (by omega) (by omega) (by omega) (by omega)) hm.2.1 (hm.sz hf) (hl.ast hf ha)
/-- a list of the two is another, all else is as it was -/
theorem CS.setl {i : Nat} {Y : sp_X} {σ' : am_H} (hC : CS g b R σ S) (hi : i < 2) (h1 : ∀ a, a < b + 8 + 5 * i ∨ b + 8 + 5 * i + 4 < a → σ'.1 a = σ.1 a) (h2 : σ'.2 = σ.2) (hw : wf σ') (hl : lsx (Zc g b R σ.2.1) σ'.1 (b + 8 + 5 * i) Y) : CS g b R σ' (setl S i Y) := by
  obtain ⟨c1, c2, c3, c4, c5, c6, c7, c8, ⟨st, c9, c10⟩, ⟨fs, c11, c12⟩, ⟨fl, c13, c14⟩, c15, ⟨X2, c16⟩, ⟨X3, c17⟩, c18⟩ := hC
  have hz : ∀ a, Zc g b R σ.2.1 a → σ'.1 a = σ.1 a := by
    intro a ha
    refine h1 a ?_
    unfold Zc at ha
    omega
  have e21 : σ'.2.1 = σ.2.1 := by rw [h2]
  unfold CS
  rw [e21]
  refine ⟨c1, c2, c3, c4, hw, c6.kept (h1 _ (by omega)), c7, c8.kept (h1 _ (by omega)), ⟨st, (h1 _ (by omega)).trans c9, c10.kept hz (fun _ z => z)⟩, ⟨fs, (h1 _ (by omega)).trans c11, fun j hj => ?_⟩, ⟨fl, (h1 _ (by omega)).trans c13, c14⟩, fun j hj => ?_, ⟨X2, c16.kept hz (fun a q1 q2 => h1 a (by omega)) (fun _ z => z)⟩, ⟨X3, c17.kept hz (fun a q1 q2 => h1 a (by omega)) (fun _ z => z)⟩, c18.kept hz (fun _ z => z)⟩
  · obtain ⟨k1, a, k2, k3⟩ := c12 j hj
    exact ⟨k1, a, k2, k3.kept hz (fun _ z => z)⟩
  · show lsx _ _ _ (if j = i then Y else S.2.2.2.1 j)
    by_cases q : j = i
    · rw [if_pos q, q]
      exact hl
    · rw [if_neg q]
      exact (c15 j hj).kept hz (fun a q1 q2 => h1 a (by omega)) (fun _ z => z)
/-- sort -/
theorem c_sort (hC : CS g b R σ S) (which : Int32) (hd : 56 ≤ d) (hQ : ∀ σ' : am_H, CS g b R σ' (sp_sort S which).1 → cfr b R σ σ' 0 0 → Q (some (.int (sp_sort S which).2)) σ') : AW g d 50 (0, [some (.ref b), some (.int which)], []) σ Q := by
  obtain ⟨d, rfl⟩ : ∃ d', d = d' + 2 := ⟨d - 2, by omega⟩
  have hC' := hC
  obtain ⟨c1, c2, c3, c4, c5, c6, c7, c8, ⟨st, ho, -⟩, -, ⟨fl, hl, hfl⟩, hls, -⟩ := hC'
  refine aw_run 2 (F' := (2, [some (.ref b), some (.int which)], [.int which, .ref b])) rfl ?_
  refine aw_v [.ref b, .int which] [] rfl (by decide) rfl ho rfl rfl (Nat.le_of_ble_eq_true rfl) (Nat.le_of_ble_eq_true rfl) ?_
  refine c_isl hC which (fun i hi er ei => ?_) (fun e => ?_)
  rotate_left
  · have hr : sp_sort S which = (S, -1) := by unfold sp_sort; rw [e]
    rw [hr] at hQ
    refine aw_zne rfl (fun z => absurd rfl z) (fun _ => ?_)
    refine aw_run 1 (F' := (9, [some (.ref b), some (.int which)], [.int (-1)])) rfl ?_
    exact aw_iret rfl ⟨_, rfl, rfl⟩ (hQ σ hC cfr.self)
  refine aw_zne rfl (fun _ => ?_) (fun z => absurd (by decide) z)
  subst er
  have hr : sp_sort S (nI i) = (setl S i (sp_srt (S.2.2.2.1 i)), nI (sp_cd (sp_srt (S.2.2.2.1 i)) (sp_srt (S.2.2.2.1 i)).length)) := by unfold sp_sort; rw [ei]
  rw [hr] at hQ
  dsimp only at hQ
  have hlx := hls i hi
  have hf := fw5_of (g := g) (b := b) (R := R) (hi := σ.2.1) (w := b + 8 + 5 * i) (by omega) (by omega) c1 c2 c3
  have hw : ∃ wl, σ.1 (b + 8 + 5 * i) = some (.inr (2, wl)) := by
    obtain ⟨⟨-, fv, fo, h2, -⟩, -⟩ := hlx
    exact ⟨_, h2⟩
  obtain ⟨wl, hwl⟩ := hw
  refine aw_run 1 (F' := (11, [some (.ref b), some (.int (nI i))], [.ref b])) rfl ?_
  refine aw_get rfl ho rfl ?_
  refine aw_run 1 (F' := (15, [some (.ref b), some (.int (nI i))], [.int (nI i), .ref (b + 7)])) rfl ?_
  refine aw_aald rfl (by decide) hl (vp_in_nI hi (by omega)) ?_
  rw [nI_clamp (by omega), hfl i hi]
  refine aw_v [.ref (b + 8 + 5 * i)] [] rfl (by decide) rfl hwl rfl rfl (Nat.le_of_ble_eq_true rfl) (Nat.le_of_ble_eq_true rfl) ?_
  refine c_arrx (d := d + 1) (by omega) hf hlx (fun σ' k1 k2 k3 k4 => ?_)
  have e21 : σ'.2.1 = σ.2.1 := by rw [k2]
  have hwf' : wf σ' := by
    intro a c hc
    rw [e21]
    by_cases q : a < b + 8 + 5 * i ∨ b + 8 + 5 * i + 4 < a
    · rw [k1 a q] at hc
      exact c5 _ _ hc
    · omega
  have hCn := hC.setl hi k1 k2 hwf' k4
  have ho' := (k1 b (by omega)).trans ho
  have hl' := (k1 (b + 7) (by omega)).trans hl
  obtain ⟨⟨n1, fv, fo, n2, n3, n4, n5⟩, nh, -, -⟩ := k4
  refine aw_run 1 (F' := (20, [some (.ref b), some (.int (nI i))], [.ref b])) rfl ?_
  refine aw_get rfl ho' rfl ?_
  refine aw_run 1 (F' := (24, [some (.ref b), some (.int (nI i))], [.int (nI i), .ref (b + 7)])) rfl ?_
  refine aw_aald rfl (by decide) hl' (vp_in_nI hi (by omega)) ?_
  rw [nI_clamp (by omega), hfl i hi]
  refine aw_v [.ref (b + 8 + 5 * i)] [] rfl (by decide) rfl n2 rfl rfl (Nat.le_of_ble_eq_true rfl) (Nat.le_of_ble_eq_true rfl) ?_
  refine c_cd (d := d) (Z := Zc g b R σ.2.1) (by omega) n2 n1 n3 (fun j x hx => ?_) nh ?_
  · obtain ⟨a, b1, b2, b3⟩ := n5 j x.1 x.2 hx
    exact ⟨a, b1, b2⟩
  · refine aw_iret rfl ⟨_, rfl, rfl⟩ (hQ σ' hCn ⟨fun a ha => k1 a (by omega), by omega, by omega, ?_, ?_⟩)
    · rw [k2]; exact Nat.le_refl _
    · rw [k2]; exact Nat.le_refl _
end P50
end
section
/-! filling a list with leaves -/
theorem sp_hgt_in (s : Nat) (b : sp_B) (u : Unit) (c r : sp_F) : sp_hgt (.inner s b u c r) = max (sp_hgt c + 1) (sp_hgt r) := rfl
theorem sp_toL_hgt : ∀ {c : sp_F} {x : sp_V}, x ∈ sp_toL c → sp_hgt x.2 ≤ sp_hgt c
  | .leaf, x, h => by cases h
  | .inner _ b _ c r, x, h => by
    rw [sp_hgt_in]
    rcases List.mem_cons.mp h with q | q
    · have : sp_hgt x.2 = sp_hgt c := by rw [q]
      omega
    · have := sp_toL_hgt q
      omega
theorem sp_fnd_hgt {nm : List Nat} : ∀ {c : sp_F} {x : sp_V}, sp_fnd nm c = some x → sp_hgt x.2 ≤ sp_hgt c
  | .leaf, x, h => by cases h
  | .inner _ b _ c r, x, h => by
    unfold sp_fnd at h
    rw [sp_hgt_in]
    split at h
    · have q := Option.some.inj h
      have : sp_hgt x.2 = sp_hgt c := by rw [← q]
      omega
    · have := sp_fnd_hgt h
      omega
theorem sp_lv_hgt {it : Bool} {H : Nat} : ∀ (n : Nat) (v : sp_V) (P : List (List Nat)), sp_hgt v.2 ≤ H → ∀ x ∈ sp_lv it n v P, sp_hgt x.2 ≤ H
  | 0, _, _, _, x, h => by cases h
  | n + 1, v, [], hv, x, h => by
    unfold sp_lv at h
    rcases List.mem_cons.mp h with q | q
    · rw [q]; exact hv
    · unfold sp_its at q
      split at q
      · exact Nat.le_trans (sp_toL_hgt q) hv
      · cases q
  | n + 1, v, s :: ss, hv, x, h => by
    unfold sp_lv at h
    split at h
    · rcases List.mem_append.mp h with q | q
      · split at q
        · cases q
        · rename_i w hw
          exact sp_lv_hgt n w ss (Nat.le_trans (sp_fnd_hgt hw) hv) x q
      · obtain ⟨w, hw1, hw2⟩ := List.mem_flatMap.mp q
        split at hw2
        · exact sp_lv_hgt n w (s :: ss) (Nat.le_trans (sp_toL_hgt hw1) hv) x hw2
        · cases hw2
    · split at h
      · rw [List.mem_singleton.mp h]
        exact Nat.zero_le _
      · rename_i w hw
        exact sp_lv_hgt n w ss (Nat.le_trans (sp_fnd_hgt hw) hv) x h
section P51
variable {g : Nat × Nat} {d b R : Nat} {σ : am_H} {S : sp_S} {Q : Option Value → am_H → Prop}
set_option maxHeartbeats 2000000 in
/-- fillWithLeaves -/
theorem c_fill (hC : CS g b R σ S) {w a : Nat} {X0 : sp_X} {it : Bool} {v : sp_V} (hd : 40 ≤ d) (hwb : b + 8 ≤ w) (hwe : w + 4 < b + 28) (hl : lsx (Zc g b R σ.2.1) σ.1 w X0) (hv : vlz (Zc g b R σ.2.1) σ.1 a v) (hh : sp_hgt v.2 ≤ 16)
    (h1 : (sp_lv it 17 v S.2.2.2.2).length ≤ 500 → ∀ σ' : am_H, (∀ x, x < σ.2.1 → (x < w ∨ w + 4 < x) → σ'.1 x = σ.1 x) → σ'.2.1 = σ.2.1 + 1 → σ'.2.2 = σ.2.2 + 3 → wf σ' → lsx (Zc g b R σ.2.1) σ'.1 w (sp_lv it 17 v S.2.2.2.2).zipIdx → Q (some (.int 1)) σ')
    (h0 : ¬ (sp_lv it 17 v S.2.2.2.2).length ≤ 500 → ∀ σ' : am_H, (∀ x, x < σ.2.1 → (x < w ∨ w + 4 < x) → σ'.1 x = σ.1 x) → σ'.2.1 = σ.2.1 + 1 → σ'.2.2 = σ.2.2 + 3 → wf σ' → lsx (Zc g b R σ.2.1) σ'.1 w [] → Q (some (.int 0)) σ') : AW g d 37 (0, [some (.ref b), some (.ref w), some (.ref a), some (.int (bI it))], []) σ Q := by
  obtain ⟨d, rfl⟩ : ∃ d', d = d' + 2 := ⟨d - 2, by omega⟩
  have hC' := hC
  obtain ⟨c1, c2, c3, c4, c5, c6, c7, c8, ⟨st, ho, hst⟩, -, -, -, -, -, hmi⟩ := hC'
  have hf := fw5_of (g := g) (b := b) (R := R) (hi := σ.2.1) (w := w) hwb hwe c1 c2 c3
  have hf' := hf.1
  obtain ⟨hls, hhx, ⟨fs, hfs⟩, ⟨fp, hfp⟩⟩ := hl
  have hls' := hls
  obtain ⟨-, fv0, fo0, hwc0, -⟩ := hls'
  refine aw_run 1 (F' := (1, [some (.ref b), some (.ref w), some (.ref a), some (.int (bI it))], [.ref w])) rfl ?_
  refine aw_v [.ref w] [] rfl (by decide) rfl hwc0 rfl rfl (Nat.le_of_ble_eq_true rfl) (Nat.le_of_ble_eq_true rfl) ?_
  refine c_clr (σ0 := σ) hf' ⟨fun _ _ _ _ => rfl, rfl⟩ hls (fun σ1 hfil1 hls1 => ?_)
  have e1 : σ1.2 = σ.2 := hfil1.2
  have ho1 := (hfil1.1 b (by omega) (by omega) (by omega)).trans ho
  -- the walk
  refine aw_new rfl ?_
  have hk2 := am_psh_same σ1 (.inr (4, am_def 4)) (am_nf 4)
  have ho2 : (am_psh σ1 (.inr (4, am_def 4)) (am_nf 4)).1 b = some (.inr (0, [.ref (b + 1), .int (nI S.2.1), .ref (b + 2), .ref (b + 7), .ref (b + 18), .ref (b + 23), .ref (b + 28), va_rf st])) := (am_psh_ne _ _ _ (by rw [e1]; omega)).trans ho1
  refine aw_run 4 (F' := (11, [some (.ref b), some (.ref w), some (.ref a), some (.int (bI it))], [.ref b, .int (bI it), .ref w, .ref σ1.2.1, .ref σ1.2.1])) rfl ?_
  refine aw_get rfl ho2 rfl ?_
  refine aw_i [.ref σ1.2.1, .ref w, .int (bI it), .ref (b + 28)] [.ref σ1.2.1] rfl (by decide) rfl rfl rfl (Nat.le_of_ble_eq_true rfl) (Nat.le_of_ble_eq_true rfl) ?_
  refine c_wnew (d := d) (by rw [e1]; omega) hk2 ?_
  rw [am_set_psh]
  have hwf1 : wf σ1 := by
    intro x c hx
    rw [e1]
    by_cases q : x = w ∨ x = w + 1 ∨ x = w + 2
    · omega
    · rw [hfil1.1 x (by omega) (by omega) (by omega)] at hx
      exact c5 _ _ hx
  have hwf2 : wf (am_psh σ1 (.inr (4, [.ref w, .int (bI it), .ref (b + 28)])) (am_nf 4)) := hwf1.psh
  have kept2 : ∀ x, x < σ.2.1 → (am_psh σ1 (.inr (4, [.ref w, .int (bI it), .ref (b + 28)])) (am_nf 4)).1 x = σ1.1 x := fun x hx => am_psh_ne _ _ _ (by rw [e1]; omega)
  have hkc := am_psh_same σ1 (.inr (4, [.ref w, .int (bI it), .ref (b + 28)])) (am_nf 4)
  have n1 : (am_psh σ1 (.inr (4, [.ref w, .int (bI it), .ref (b + 28)])) (am_nf 4)).2.1 = σ.2.1 + 1 := by show σ1.2.1 + 1 = _; rw [e1]
  have n2 : (am_psh σ1 (.inr (4, [.ref w, .int (bI it), .ref (b + 28)])) (am_nf 4)).2.2 = σ.2.2 + 3 := by show σ1.2.2 + 3 = _; rw [e1]
  have e1' : σ1.2.1 = σ.2.1 := by rw [e1]
  rw [e1'] at hkc ⊢
  generalize am_psh σ1 (.inr (4, [.ref w, .int (bI it), .ref (b + 28)])) (am_nf 4) = σ2 at hwf2 kept2 hkc n1 n2 ⊢
  have zlt : ∀ x, Zc g b R σ.2.1 x → x < σ.2.1 := by
    intro x hx
    unfold Zc at hx
    omega
  have hz1 := hfil1.z hf'
  have hz2 : ∀ x, Zc g b R σ.2.1 x → σ2.1 x = σ.1 x := fun x hx => (kept2 x (zlt x hx)).trans (hz1 x hx)
  have out2 : ∀ x, x < σ.2.1 → (x < w ∨ w + 4 < x) → σ2.1 x = σ.1 x := fun x hx hq => (kept2 x hx).trans (hfil1.1 x (by omega) (by omega) (by omega))
  have ho3 := (out2 b (by omega) (by omega)).trans ho
  have hls2 : ls (Zc g b R σ.2.1) σ2.1 σ2.1 w (w + 1) (w + 2) (w + 3) (w + 4) ([], false) := by
    obtain ⟨q1, fv, fo, q2, q3, q4, q5⟩ := hls1
    exact ⟨q1, fv, fo, (kept2 _ (by omega)).trans q2, (kept2 _ (by omega)).trans q3, (kept2 _ (by omega)).trans q4, fun i v o hi => by simp at hi⟩
  have hwlk : wlk g (Zc g b R σ.2.1) σ2 σ.2.1 w (w + 1) (w + 2) (b + 28) it := ⟨hf', by omega, by omega, by omega, hkc, hmi.kept hz2 (fun _ z => z)⟩
  have hst2 := hst.kept hz2 (fun _ z => z)
  have hv2 := hv.kept hz2 (fun _ z => z)
  have fin : ∀ σ3 : am_H, fil σ2 σ3 w (w + 1) (w + 2) → ls (Zc g b R σ.2.1) σ2.1 σ3.1 w (w + 1) (w + 2) (w + 3) (w + 4) (sp_adds ([], false) (sp_lv it 17 v S.2.2.2.2)) → AW g (d + 2) 37 (26, [some (.ref b), some (.ref w), some (.ref a), some (.int (bI it))], []) σ3 Q := by
    intro σ3 hfil3 hls3
    have hlvh := sp_lv_hgt (it := it) 17 v S.2.2.2.2 hh
    generalize sp_lv it 17 v S.2.2.2.2 = L at h1 h0 hls3 hlvh
    have hall := sp_adds_all L [] (by simp)
    have post : ∀ σ4 : am_H, fil σ2 σ4 w (w + 1) (w + 2) → (∀ x, x < σ.2.1 → (x < w ∨ w + 4 < x) → σ4.1 x = σ.1 x) ∧ σ4.2.1 = σ.2.1 + 1 ∧ σ4.2.2 = σ.2.2 + 3 ∧ wf σ4 ∧ (∀ X : sp_X, ls (Zc g b R σ.2.1) σ2.1 σ4.1 w (w + 1) (w + 2) (w + 3) (w + 4) (X, false) → (∀ x ∈ X, sp_hgt x.1.2 ≤ 16) → lsx (Zc g b R σ.2.1) σ4.1 w X) := by
      intro σ4 hfil4
      have e4 : σ4.2 = σ2.2 := hfil4.2
      have hz4 := hfil4.z hf'
      refine ⟨fun x hx hq => (hfil4.1 x (by omega) (by omega) (by omega)).trans (out2 x hx hq), by rw [e4]; exact n1, by rw [e4]; exact n2, fun x c hx => ?_, fun X hX hXh => ?_⟩
      · rw [e4]
        by_cases q : x = w ∨ x = w + 1 ∨ x = w + 2
        · omega
        · rw [hfil4.1 x (by omega) (by omega) (by omega)] at hx
          exact hwf2 _ _ hx
      · obtain ⟨q1, fv, fo, q2, q3, q4, q5⟩ := hX
        refine ⟨⟨q1, fv, fo, q2, q3, q4, fun i v' o hi => ?_⟩, hXh, ⟨fs, ?_⟩, ⟨fp, ?_⟩⟩
        · obtain ⟨y, y1, y2, y3⟩ := q5 i v' o hi
          exact ⟨y, y1, y2.kept hz4 (fun _ z => z), y3⟩
        · rw [hfil4.1 _ (by omega) (by omega) (by omega), kept2 _ (by omega), hfil1.1 _ (by omega) (by omega) (by omega)]
          exact hfs
        · rw [hfil4.1 _ (by omega) (by omega) (by omega), kept2 _ (by omega), hfil1.1 _ (by omega) (by omega) (by omega)]
          exact hfp
    have hls3' := hls3
    obtain ⟨-, fv3, fo3, hwc3, -⟩ := hls3'
    refine aw_run 1 (F' := (27, [some (.ref b), some (.ref w), some (.ref a), some (.int (bI it))], [.ref w])) rfl ?_
    refine aw_get rfl hwc3 rfl ?_
    by_cases hL : L.length ≤ 500
    · have hS := hall.1 (by simpa using hL)
      rw [hS] at hls3
      have hS2 : (sp_adds ([], false) L).2 = false := by rw [hS]
      rw [hS2]
      refine aw_zeq rfl (fun _ => ?_) (fun z => absurd rfl z)
      refine aw_run 1 (F' := (40, [some (.ref b), some (.ref w), some (.ref a), some (.int (bI it))], [.int 1])) rfl ?_
      obtain ⟨p1, p2, p3, p4, p5⟩ := post σ3 hfil3
      refine aw_iret rfl ⟨_, rfl, rfl⟩ (h1 hL σ3 p1 p2 p3 p4 (p5 _ hls3 (fun x hx => ?_)))
      have hx' := List.mem_zipIdx_iff_getElem?.mp hx
      exact hlvh x.1 (List.mem_of_getElem? hx')
    · have hS := hall.2 (by simp; omega)
      rw [hS]
      refine aw_zeq rfl (fun z => absurd z (by decide)) (fun _ => ?_)
      refine aw_run 1 (F' := (34, [some (.ref b), some (.ref w), some (.ref a), some (.int (bI it))], [.ref w])) rfl ?_
      refine aw_v [.ref w] [] rfl (by decide) rfl hwc3 rfl rfl (Nat.le_of_ble_eq_true rfl) (Nat.le_of_ble_eq_true rfl) ?_
      refine c_clr (σ0 := σ2) hf' hfil3 hls3 (fun σ4 hfil4 hls4 => ?_)
      refine aw_run 1 (F' := (38, [some (.ref b), some (.ref w), some (.ref a), some (.int (bI it))], [.int 0])) rfl ?_
      obtain ⟨p1, p2, p3, p4, p5⟩ := post σ4 hfil4
      exact aw_iret rfl ⟨_, rfl, rfl⟩ (h0 hL σ4 p1 p2 p3 p4 (p5 _ hls4 (fun x hx => by cases hx)))
  have key := FW_all 17 g (d + 1) (Zc g b R σ.2.1) σ2 σ2 (fun (v : Option Value) (σ' : am_H) => AW g (d + 2) 37 (23 + 3, [some (.ref b), some (.ref w), some (.ref a), some (.int (bI it))], v.toList ++ []) σ' Q) σ.2.1 w (w + 1) (w + 2) (w + 3) (w + 4) (b + 28) a 1 it v S.2.2.2.2 st ([], false) hwlk hv2 hst2 ⟨fun _ _ _ _ => rfl, rfl⟩ hls2 (by omega) (by omega) (fun σ3 k1 k2 => fin σ3 k1 k2)
  refine aw_run 2 (F' := (19, [some (.ref b), some (.ref w), some (.ref a), some (.int (bI it))], [.ref b, .ref a, .ref σ.2.1])) rfl ?_
  refine aw_get rfl ho3 rfl ?_
  rcases st with _ | y
  · refine aw_run 1 (F' := (23, [some (.ref b), some (.ref w), some (.ref a), some (.int (bI it))], [.int (nI 1), .null, .ref a, .ref σ.2.1])) rfl ?_
    refine aw_v [.ref σ.2.1, .ref a, .null, .int (nI 1)] [] rfl (by decide) rfl hkc rfl rfl (Nat.le_of_ble_eq_true rfl) (Nat.le_of_ble_eq_true rfl) ?_
    exact key
  · refine aw_run 1 (F' := (23, [some (.ref b), some (.ref w), some (.ref a), some (.int (bI it))], [.int (nI 1), .ref y, .ref a, .ref σ.2.1])) rfl ?_
    refine aw_v [.ref σ.2.1, .ref a, .ref y, .int (nI 1)] [] rfl (by decide) rfl hkc rfl rfl (Nat.le_of_ble_eq_true rfl) (Nat.le_of_ble_eq_true rfl) ?_
    exact key
end P51
end
section
/-! list and meet -/
def sp_list (S : sp_S) (which slot : Int32) (it : Bool) : sp_S × Int32 := match sp_ix which 2, sp_ix slot 4 with
  | some i, some j => if S.2.2.2.2 = [] then (S, -2) else if (sp_lv it 17 (sp_dv (S.2.2.1 j)) S.2.2.2.2).length ≤ 500 then (setl S i (sp_lv it 17 (sp_dv (S.2.2.1 j)) S.2.2.2.2).zipIdx, nI (sp_lv it 17 (sp_dv (S.2.2.1 j)) S.2.2.2.2).length) else (setl S i [], -1)
  | _, _ => (S, -2)
/-- whether two lists of values share one -/
def sp_mt (L L' : List sp_V) : Bool := L.any (fun a => L'.any (fun b => decide (sp_vc a b = 0)))
def sp_meet (S : sp_S) (r s : Int32) (it : Bool) : Bool := match sp_ix r 4, sp_ix s 4 with
  | some i, some j => decide (¬ S.2.2.2.2 = [] ∧ (sp_lv it 17 (sp_dv (S.2.2.1 i)) S.2.2.2.2).length ≤ 500 ∧ (sp_lv it 17 (sp_dv (S.2.2.1 j)) S.2.2.2.2).length ≤ 500 ∧ sp_mt (sp_lv it 17 (sp_dv (S.2.2.1 i)) S.2.2.2.2) (sp_lv it 17 (sp_dv (S.2.2.1 j)) S.2.2.2.2) = true)
  | _, _ => false
section P52
variable {g : Nat × Nat} {d b R : Nat} {σ : am_H} {S : sp_S} {Q : Option Value → am_H → Prop}
/-- the lists are others, all else is as it was -/
theorem CS.lists {σ' : am_H} (hC : CS g b R σ S) (h1 : ∀ a, a < σ.2.1 → (a < b + 8 ∨ b + 28 ≤ a) → σ'.1 a = σ.1 a) (hle : σ.2.1 ≤ σ'.2.1) (hw : wf σ') (l' : Nat → sp_X) (hl : ∀ i, i < 2 → lsx (Zc g b R σ'.2.1) σ'.1 (b + 8 + 5 * i) (l' i)) (hL : ∃ X, lsx (Zc g b R σ'.2.1) σ'.1 (b + 18) X) (hR : ∃ X, lsx (Zc g b R σ'.2.1) σ'.1 (b + 23) X) : CS g b R σ' (S.1, S.2.1, S.2.2.1, l', S.2.2.2.2) := by
  obtain ⟨c1, c2, c3, c4, c5, c6, c7, c8, ⟨st, c9, c10⟩, ⟨fs, c11, c12⟩, ⟨fl, c13, c14⟩, -, -, -, c18⟩ := hC
  have hz : ∀ a, Zc g b R σ.2.1 a → σ'.1 a = σ.1 a := by
    intro a ha
    unfold Zc at ha
    exact h1 a (by omega) (by omega)
  have hm := Zc.mono (g := g) (b := b) (R := R) hle
  refine ⟨c1, c2, c3, by omega, hw, c6.kept (h1 _ (by omega) (by omega)), c7, c8.kept (h1 _ (by omega) (by omega)), ⟨st, (h1 _ (by omega) (by omega)).trans c9, c10.kept hz hm⟩, ⟨fs, (h1 _ (by omega) (by omega)).trans c11, fun j hj => ?_⟩, ⟨fl, (h1 _ (by omega) (by omega)).trans c13, c14⟩, hl, hL, hR, c18.kept hz hm⟩
  obtain ⟨k1, a, k2, k3⟩ := c12 j hj
  exact ⟨k1, a, k2, k3.kept hz hm⟩
/-- one list of the four is another -/
theorem cs_fill {σ' : am_H} {w : Nat} {Y : sp_X} (hC : CS g b R σ S) (h1 : ∀ a, a < σ.2.1 → (a < w ∨ w + 4 < a) → σ'.1 a = σ.1 a) (hle : σ.2.1 ≤ σ'.2.1) (hw : wf σ') (hl : lsx (Zc g b R σ.2.1) σ'.1 w Y) (hwb : b + 8 ≤ w) (hwe : w + 4 < b + 28) : lsx (Zc g b R σ'.2.1) σ'.1 w Y ∧ (∀ i, w = b + 8 + 5 * i → i < 2 → CS g b R σ' (setl S i Y)) ∧ ((w = b + 18 ∨ w = b + 23) → CS g b R σ' S) := by
  have hC' := hC
  obtain ⟨c1, c2, c3, c4, c5, c6, c7, c8, -, -, -, c15, ⟨X2, c16⟩, ⟨X3, c17⟩, -⟩ := hC'
  have hz : ∀ a, Zc g b R σ.2.1 a → σ'.1 a = σ.1 a := by
    intro a ha
    unfold Zc at ha
    exact h1 a (by omega) (by omega)
  have hm := Zc.mono (g := g) (b := b) (R := R) hle
  have hlY := hl.kept (h' := σ'.1) (fun _ _ => rfl) (fun _ _ _ => rfl) hm
  refine ⟨hlY, fun i hi hi2 => ?_, fun hq => ?_⟩
  · subst hi
    refine hC.lists (fun a q1 q2 => h1 a q1 (by omega)) hle hw (fun j => if j = i then Y else S.2.2.2.1 j) (fun j hj => ?_) ⟨X2, c16.kept hz (fun a q1 q2 => h1 a (by omega) (by omega)) hm⟩ ⟨X3, c17.kept hz (fun a q1 q2 => h1 a (by omega) (by omega)) hm⟩
    by_cases q : j = i
    · rw [if_pos q, q]
      exact hlY
    · rw [if_neg q]
      exact (c15 j hj).kept hz (fun a q1 q2 => h1 a (by omega) (by omega)) hm
  · refine hC.lists (fun a q1 q2 => h1 a q1 (by omega)) hle hw S.2.2.2.1 (fun j hj => (c15 j hj).kept hz (fun a q1 q2 => h1 a (by omega) (by omega)) hm) ?_ ?_
    · rcases hq with q | q
      · exact ⟨Y, q ▸ hlY⟩
      · exact ⟨X2, c16.kept hz (fun a q1 q2 => h1 a (by omega) (by omega)) hm⟩
    · rcases hq with q | q
      · exact ⟨X3, c17.kept hz (fun a q1 q2 => h1 a (by omega) (by omega)) hm⟩
      · exact ⟨Y, q ▸ hlY⟩
theorem stc.nul {Z : Nat → Prop} {h : Nat → Option am_C} {P : List (List Nat)} {o : Option Nat} (q : stc Z h P o) : (P = [] ∧ o = none) ∨ (P ≠ [] ∧ ∃ a, o = some a) := by
  rcases q.cnt with h | ⟨h, a, -, -, e, -⟩
  · exact Or.inl h
  · exact Or.inr ⟨h, a, e⟩
/-- list -/
theorem c_list (hC : CS g b R σ S) (which slot : Int32) (it : Bool) (hd : 42 ≤ d) (hQ : ∀ σ' : am_H, CS g b R σ' (sp_list S which slot it).1 → cfr b R σ σ' 1 3 → Q (some (.int (sp_list S which slot it).2)) σ') : AW g d 35 (0, [some (.ref b), some (.int which), some (.int slot), some (.int (bI it))], []) σ Q := by
  obtain ⟨d, rfl⟩ : ∃ d', d = d' + 1 := ⟨d - 1, by omega⟩
  have hC' := hC
  obtain ⟨c1, c2, c3, c4, c5, c6, c7, c8, ⟨st, ho, hst⟩, ⟨fs, hs, hsl⟩, ⟨fl, hl, hfl⟩, hls, -⟩ := hC'
  have no : sp_list S which slot it = (S, -2) → AW g (d + 1) 35 (23, [some (.ref b), some (.int which), some (.int slot), some (.int (bI it))], []) σ Q := by
    intro q
    rw [q] at hQ
    refine aw_run 1 (F' := (25, [some (.ref b), some (.int which), some (.int slot), some (.int (bI it))], [.int (-2)])) rfl ?_
    exact aw_iret rfl ⟨_, rfl, rfl⟩ (hQ σ hC ⟨fun _ _ => rfl, by omega, by omega, by omega, by omega⟩)
  refine aw_run 2 (F' := (2, [some (.ref b), some (.int which), some (.int slot), some (.int (bI it))], [.int which, .ref b])) rfl ?_
  refine aw_v [.ref b, .int which] [] rfl (by decide) rfl ho rfl rfl (Nat.le_of_ble_eq_true rfl) (Nat.le_of_ble_eq_true rfl) ?_
  refine c_isl hC which (fun i hi er ei => ?_) (fun e => ?_)
  rotate_left
  · exact aw_zeq rfl (fun _ => no (by unfold sp_list; rw [e])) (fun z => absurd rfl z)
  refine aw_zeq rfl (fun z => absurd z (by decide)) (fun _ => ?_)
  refine aw_run 2 (F' := (10, [some (.ref b), some (.int which), some (.int slot), some (.int (bI it))], [.int slot, .ref b])) rfl ?_
  refine aw_v [.ref b, .int slot] [] rfl (by decide) rfl ho rfl rfl (Nat.le_of_ble_eq_true rfl) (Nat.le_of_ble_eq_true rfl) ?_
  refine c_slot hC slot (fun j hj es ej => ?_) (fun e => ?_)
  rotate_left
  · exact aw_zeq rfl (fun _ => no (by unfold sp_list; rw [e, ei])) (fun z => absurd rfl z)
  refine aw_zeq rfl (fun z => absurd z (by decide)) (fun _ => ?_)
  have hr : sp_list S which slot it = (if S.2.2.2.2 = [] then (S, -2) else if (sp_lv it 17 (sp_dv (S.2.2.1 j)) S.2.2.2.2).length ≤ 500 then (setl S i (sp_lv it 17 (sp_dv (S.2.2.1 j)) S.2.2.2.2).zipIdx, nI (sp_lv it 17 (sp_dv (S.2.2.1 j)) S.2.2.2.2).length) else (setl S i [], -1)) := by unfold sp_list; rw [ei, ej]
  refine aw_run 1 (F' := (17, [some (.ref b), some (.int which), some (.int slot), some (.int (bI it))], [.ref b])) rfl ?_
  refine aw_get rfl ho rfl ?_
  rcases hst.nul with ⟨hP, rfl⟩ | ⟨hP, y, rfl⟩
  · refine aw_ifnon_n rfl ?_
    exact no (by rw [hr, if_pos hP])
  rw [if_neg hP] at hr
  rw [hr] at hQ
  subst er
  subst es
  refine aw_ifnon_r rfl ?_
  obtain ⟨hh, x, hx1, hx2⟩ := hsl j hj
  refine aw_run 2 (F' := (28, [some (.ref b), some (.int (nI i)), some (.int (nI j)), some (.int (bI it))], [.ref b, .ref b])) rfl ?_
  refine aw_get rfl ho rfl ?_
  refine aw_run 1 (F' := (32, [some (.ref b), some (.int (nI i)), some (.int (nI j)), some (.int (bI it))], [.int (nI i), .ref (b + 7), .ref b])) rfl ?_
  refine aw_aald rfl (by decide) hl (vp_in_nI hi (by omega)) ?_
  rw [nI_clamp (by omega), hfl i hi]
  refine aw_run 1 (F' := (34, [some (.ref b), some (.int (nI i)), some (.int (nI j)), some (.int (bI it))], [.ref b, .ref (b + 8 + 5 * i), .ref b])) rfl ?_
  refine aw_get rfl ho rfl ?_
  refine aw_run 1 (F' := (38, [some (.ref b), some (.int (nI i)), some (.int (nI j)), some (.int (bI it))], [.int (nI j), .ref (b + 2), .ref (b + 8 + 5 * i), .ref b])) rfl ?_
  refine aw_aald rfl (by decide) hs (vp_in_nI hj (by omega)) ?_
  rw [nI_clamp (by omega), hx1]
  refine aw_run 1 (F' := (40, [some (.ref b), some (.int (nI i)), some (.int (nI j)), some (.int (bI it))], [.int (bI it), .ref x, .ref (b + 8 + 5 * i), .ref b])) rfl ?_
  refine aw_v [.ref b, .ref (b + 8 + 5 * i), .ref x, .int (bI it)] [] rfl (by decide) rfl ho rfl rfl (Nat.le_of_ble_eq_true rfl) (Nat.le_of_ble_eq_true rfl) ?_
  refine c_fill hC (w := b + 8 + 5 * i) (it := it) (by omega) (by omega) (by omega) (hls i hi) hx2 hh (fun hL σ' k1 k2 k3 k4 k5 => ?_) (fun hL σ' k1 k2 k3 k4 k5 => ?_)
  · rw [if_pos hL] at hQ
    have hCn := (cs_fill hC k1 (by omega) k4 k5 (by omega) (by omega)).2.1 i rfl hi
    have ho' := (k1 b (by omega) (by omega)).trans ho
    have hl' := (k1 (b + 7) (by omega) (by omega)).trans hl
    have k5' := k5
    obtain ⟨⟨n1, fv, fo, n2, -⟩, -⟩ := k5'
    dsimp only at n2
    rw [List.length_zipIdx] at n2
    refine aw_zeq rfl (fun z => absurd z (by decide)) (fun _ => ?_)
    refine aw_run 1 (F' := (47, [some (.ref b), some (.int (nI i)), some (.int (nI j)), some (.int (bI it))], [.ref b])) rfl ?_
    refine aw_get rfl ho' rfl ?_
    refine aw_run 1 (F' := (51, [some (.ref b), some (.int (nI i)), some (.int (nI j)), some (.int (bI it))], [.int (nI i), .ref (b + 7)])) rfl ?_
    refine aw_aald rfl (by decide) hl' (vp_in_nI hi (by omega)) ?_
    rw [nI_clamp (by omega), hfl i hi]
    refine aw_get rfl n2 rfl ?_
    refine aw_run 1 (F' := (59, [some (.ref b), some (.int (nI i)), some (.int (nI j)), some (.int (bI it))], [.int (nI (sp_lv it 17 (sp_dv (S.2.2.1 j)) S.2.2.2.2).length)])) rfl ?_
    exact aw_iret rfl ⟨_, rfl, rfl⟩ (hQ σ' hCn ⟨fun a ha => k1 a (by omega) (by omega), by omega, by omega, by omega, by omega⟩)
  · rw [if_neg hL] at hQ
    have hCn := (cs_fill hC k1 (by omega) k4 k5 (by omega) (by omega)).2.1 i rfl hi
    refine aw_zeq rfl (fun _ => ?_) (fun z => absurd rfl z)
    refine aw_run 1 (F' := (59, [some (.ref b), some (.int (nI i)), some (.int (nI j)), some (.int (bI it))], [.int (-1)])) rfl ?_
    exact aw_iret rfl ⟨_, rfl, rfl⟩ (hQ σ' hCn ⟨fun a ha => k1 a (by omega) (by omega), by omega, by omega, by omega, by omega⟩)
end P52
end
section
theorem sp_shr_mt (L L' : List sp_V) : sp_shr (sp_srt L.zipIdx) (sp_srt L'.zipIdx) ↔ sp_mt L L' = true := by
  have mem : ∀ (L : List sp_V) (x : sp_I), x ∈ sp_srt L.zipIdx → x.1 ∈ L := fun L x hx => List.mem_of_getElem? (List.mem_zipIdx_iff_getElem?.mp ((sp_srt_eq _).mem hx))
  have mem2 : ∀ (L : List sp_V) (v : sp_V), v ∈ L → ∃ x ∈ sp_srt L.zipIdx, x.1 = v := by
    intro L v hv
    obtain ⟨i, hi⟩ := List.mem_iff_getElem?.mp hv
    exact ⟨(v, i), (sp_srt_eq _).sy.mem (List.mem_zipIdx_iff_getElem?.mpr hi), rfl⟩
  unfold sp_shr sp_mt
  rw [List.any_eq_true]
  refine ⟨fun ⟨a, ha, b, hb, hab⟩ => ⟨a.1, mem L a ha, List.any_eq_true.mpr ⟨b.1, mem L' b hb, decide_eq_true hab⟩⟩, fun ⟨a, ha, h⟩ => ?_⟩
  obtain ⟨b, hb, hab⟩ := List.any_eq_true.mp h
  obtain ⟨x, hx, rfl⟩ := mem2 L a ha
  obtain ⟨y, hy, rfl⟩ := mem2 L' b hb
  exact ⟨x, hx, y, hy, of_decide_eq_true hab⟩
section P53
variable {g : Nat × Nat} {d b R : Nat} {σ : am_H} {S : sp_S} {Q : Option Value → am_H → Prop}
set_option maxHeartbeats 2000000 in
/-- meet -/
theorem c_meet (hC : CS g b R σ S) (r s : Int32) (it : Bool) (hd : 57 ≤ d) (hQ : ∀ σ' : am_H, CS g b R σ' S → cfr b R σ σ' 2 6 → Q (some (.int (bI (sp_meet S r s it)))) σ') : AW g d 56 (0, [some (.ref b), some (.int r), some (.int s), some (.int (bI it))], []) σ Q := by
  obtain ⟨d, rfl⟩ : ∃ d', d = d' + 2 := ⟨d - 2, by omega⟩
  have hC' := hC
  obtain ⟨c1, c2, c3, c4, c5, c6, c7, c8, ⟨st, ho, hst⟩, ⟨fs, hs, hsl⟩, -, -, ⟨X2, hl2⟩, ⟨X3, hl3⟩, -⟩ := hC'
  have no : sp_meet S r s it = false → AW g (d + 2) 56 (23, [some (.ref b), some (.int r), some (.int s), some (.int (bI it))], []) σ Q := by
    intro q
    rw [q] at hQ
    refine aw_run 1 (F' := (24, [some (.ref b), some (.int r), some (.int s), some (.int (bI it))], [.int 0])) rfl ?_
    exact aw_iret rfl ⟨_, rfl, rfl⟩ (hQ σ hC ⟨fun _ _ => rfl, by omega, by omega, by omega, by omega⟩)
  refine aw_run 2 (F' := (2, [some (.ref b), some (.int r), some (.int s), some (.int (bI it))], [.int r, .ref b])) rfl ?_
  refine aw_v [.ref b, .int r] [] rfl (by decide) rfl ho rfl rfl (Nat.le_of_ble_eq_true rfl) (Nat.le_of_ble_eq_true rfl) ?_
  refine c_slot hC r (fun i hi er ei => ?_) (fun e => ?_)
  rotate_left
  · exact aw_zeq rfl (fun _ => no (by unfold sp_meet; rw [e])) (fun z => absurd rfl z)
  refine aw_zeq rfl (fun z => absurd z (by decide)) (fun _ => ?_)
  refine aw_run 2 (F' := (10, [some (.ref b), some (.int r), some (.int s), some (.int (bI it))], [.int s, .ref b])) rfl ?_
  refine aw_v [.ref b, .int s] [] rfl (by decide) rfl ho rfl rfl (Nat.le_of_ble_eq_true rfl) (Nat.le_of_ble_eq_true rfl) ?_
  refine c_slot hC s (fun j hj es ej => ?_) (fun e => ?_)
  rotate_left
  · exact aw_zeq rfl (fun _ => no (by unfold sp_meet; rw [e, ei])) (fun z => absurd rfl z)
  refine aw_zeq rfl (fun z => absurd z (by decide)) (fun _ => ?_)
  have hr : sp_meet S r s it = decide (¬ S.2.2.2.2 = [] ∧ (sp_lv it 17 (sp_dv (S.2.2.1 i)) S.2.2.2.2).length ≤ 500 ∧ (sp_lv it 17 (sp_dv (S.2.2.1 j)) S.2.2.2.2).length ≤ 500 ∧ sp_mt (sp_lv it 17 (sp_dv (S.2.2.1 i)) S.2.2.2.2) (sp_lv it 17 (sp_dv (S.2.2.1 j)) S.2.2.2.2) = true) := by unfold sp_meet; rw [ei, ej]
  refine aw_run 1 (F' := (17, [some (.ref b), some (.int r), some (.int s), some (.int (bI it))], [.ref b])) rfl ?_
  refine aw_get rfl ho rfl ?_
  rcases hst.nul with ⟨hP, rfl⟩ | ⟨hP, y, rfl⟩
  · refine aw_ifnon_n rfl ?_
    exact no (by rw [hr]; exact decide_eq_false (fun z => z.1 hP))
  subst er
  subst es
  refine aw_ifnon_r rfl ?_
  obtain ⟨hh, x, hx1, hx2⟩ := hsl i hi
  refine aw_run 2 (F' := (27, [some (.ref b), some (.int (nI i)), some (.int (nI j)), some (.int (bI it))], [.ref b, .ref b])) rfl ?_
  refine aw_get rfl ho rfl ?_
  refine aw_run 1 (F' := (31, [some (.ref b), some (.int (nI i)), some (.int (nI j)), some (.int (bI it))], [.ref b, .ref (b + 18), .ref b])) rfl ?_
  refine aw_get rfl ho rfl ?_
  refine aw_run 1 (F' := (35, [some (.ref b), some (.int (nI i)), some (.int (nI j)), some (.int (bI it))], [.int (nI i), .ref (b + 2), .ref (b + 18), .ref b])) rfl ?_
  refine aw_aald rfl (by decide) hs (vp_in_nI hi (by omega)) ?_
  rw [nI_clamp (by omega), hx1]
  refine aw_run 1 (F' := (37, [some (.ref b), some (.int (nI i)), some (.int (nI j)), some (.int (bI it))], [.int (bI it), .ref x, .ref (b + 18), .ref b])) rfl ?_
  refine aw_v [.ref b, .ref (b + 18), .ref x, .int (bI it)] [] rfl (by decide) rfl ho rfl rfl (Nat.le_of_ble_eq_true rfl) (Nat.le_of_ble_eq_true rfl) ?_
  refine c_fill hC (w := b + 18) (it := it) (by omega) (by omega) (by omega) hl2 hx2 hh (fun hL σ1 k1 k2 k3 k4 k5 => ?_) (fun hL σ1 k1 k2 k3 k4 k5 => ?_)
  rotate_left
  · have hC1 := (cs_fill hC k1 (by omega) k4 k5 (by omega) (by omega)).2.2 (Or.inl rfl)
    refine aw_zeq rfl (fun _ => ?_) (fun z => absurd rfl z)
    refine aw_run 1 (F' := (62, [some (.ref b), some (.int (nI i)), some (.int (nI j)), some (.int (bI it))], [.int 0])) rfl ?_
    have hr' : sp_meet S (nI i) (nI j) it = false := by rw [hr]; exact decide_eq_false (fun z => hL z.2.1)
    rw [hr'] at hQ
    exact aw_iret rfl ⟨_, rfl, rfl⟩ (hQ σ1 hC1 ⟨fun a ha => k1 a (by omega) (by omega), by omega, by omega, by omega, by omega⟩)
  have hcf := cs_fill hC k1 (by omega) k4 k5 (by omega) (by omega)
  have hC1 := hcf.2.2 (Or.inl rfl)
  have hlL1 := hcf.1
  have hC1' := hC1
  obtain ⟨-, -, -, d4, d5, -, -, -, ⟨st1, ho1, -⟩, ⟨fs1, hs1, hsl1⟩, -, -, -, ⟨X4, hl4⟩, -⟩ := hC1'
  refine aw_zeq rfl (fun z => absurd z (by decide)) (fun _ => ?_)
  obtain ⟨hh2, x2, hy1, hy2⟩ := hsl1 j hj
  refine aw_run 2 (F' := (45, [some (.ref b), some (.int (nI i)), some (.int (nI j)), some (.int (bI it))], [.ref b, .ref b])) rfl ?_
  refine aw_get rfl ho1 rfl ?_
  refine aw_run 1 (F' := (49, [some (.ref b), some (.int (nI i)), some (.int (nI j)), some (.int (bI it))], [.ref b, .ref (b + 23), .ref b])) rfl ?_
  refine aw_get rfl ho1 rfl ?_
  refine aw_run 1 (F' := (53, [some (.ref b), some (.int (nI i)), some (.int (nI j)), some (.int (bI it))], [.int (nI j), .ref (b + 2), .ref (b + 23), .ref b])) rfl ?_
  refine aw_aald rfl (by decide) hs1 (vp_in_nI hj (by omega)) ?_
  rw [nI_clamp (by omega), hy1]
  refine aw_run 1 (F' := (55, [some (.ref b), some (.int (nI i)), some (.int (nI j)), some (.int (bI it))], [.int (bI it), .ref x2, .ref (b + 23), .ref b])) rfl ?_
  refine aw_v [.ref b, .ref (b + 23), .ref x2, .int (bI it)] [] rfl (by decide) rfl ho1 rfl rfl (Nat.le_of_ble_eq_true rfl) (Nat.le_of_ble_eq_true rfl) ?_
  refine c_fill hC1 (w := b + 23) (it := it) (by omega) (by omega) (by omega) hl4 hy2 hh2 (fun hL2 σ2 j1 j2 j3 j4 j5 => ?_) (fun hL2 σ2 j1 j2 j3 j4 j5 => ?_)
  rotate_left
  · have hC2 := (cs_fill hC1 j1 (by omega) j4 j5 (by omega) (by omega)).2.2 (Or.inr rfl)
    refine aw_zne rfl (fun z => absurd rfl z) (fun _ => ?_)
    refine aw_run 1 (F' := (62, [some (.ref b), some (.int (nI i)), some (.int (nI j)), some (.int (bI it))], [.int 0])) rfl ?_
    have hr' : sp_meet S (nI i) (nI j) it = false := by rw [hr]; exact decide_eq_false (fun z => hL2 z.2.2.1)
    rw [hr'] at hQ
    exact aw_iret rfl ⟨_, rfl, rfl⟩ (hQ σ2 hC2 ⟨fun a ha => (j1 a (by omega) (by omega)).trans (k1 a (by omega) (by omega)), by omega, by omega, by omega, by omega⟩)
  have hcf2 := cs_fill hC1 j1 (by omega) j4 j5 (by omega) (by omega)
  have hC2 := hcf2.2.2 (Or.inr rfl)
  have hlR2 := hcf2.1
  have hzz : ∀ a, Zc g b R σ1.2.1 a → σ2.1 a = σ1.1 a := by
    intro a ha
    unfold Zc at ha
    exact j1 a (by omega) (by omega)
  have hlL2 : lsx (Zc g b R σ2.2.1) σ2.1 (b + 18) (sp_lv it 17 (sp_dv (S.2.2.1 i)) S.2.2.2.2).zipIdx := hlL1.kept hzz (fun a q1 q2 => j1 a (by omega) (by omega)) (Zc.mono (by omega))
  have hC2' := hC2
  obtain ⟨-, -, -, e4, e5, -, -, -, ⟨st2, ho2, -⟩, -, -, hls2, -⟩ := hC2'
  refine aw_zne rfl (fun _ => ?_) (fun z => absurd (by decide) z)
  have wcell : ∀ {Z : Nat → Prop} {h : Nat → Option am_C} {w : Nat} {X : sp_X}, lsx Z h w X → ∃ wl, h w = some (.inr (2, wl)) := by
    intro Z h w X q
    obtain ⟨⟨-, fv, fo, h2, -⟩, -⟩ := q
    exact ⟨_, h2⟩
  obtain ⟨wl, hwl⟩ := wcell hlL2
  refine aw_run 1 (F' := (64, [some (.ref b), some (.int (nI i)), some (.int (nI j)), some (.int (bI it))], [.ref b])) rfl ?_
  refine aw_get rfl ho2 rfl ?_
  refine aw_v [.ref (b + 18)] [] rfl (by decide) rfl hwl rfl rfl (Nat.le_of_ble_eq_true rfl) (Nat.le_of_ble_eq_true rfl) ?_
  refine c_arrx (d := d + 1) (by omega) (fw5_of (by omega) (by omega) c1 c2 c3) hlL2 (fun σ3 u1 u2 u3 u4 => ?_)
  have hlR3 := hlR2.kept (h' := σ3.1) u3 (fun a q1 q2 => u1 a (by omega)) (fun _ z => z)
  have ho3 := (u1 b (by omega)).trans ho2
  obtain ⟨wl3, hwl3⟩ := wcell hlR3
  refine aw_run 1 (F' := (71, [some (.ref b), some (.int (nI i)), some (.int (nI j)), some (.int (bI it))], [.ref b])) rfl ?_
  refine aw_get rfl ho3 rfl ?_
  refine aw_v [.ref (b + 23)] [] rfl (by decide) rfl hwl3 rfl rfl (Nat.le_of_ble_eq_true rfl) (Nat.le_of_ble_eq_true rfl) ?_
  refine c_arrx (d := d + 1) (by omega) (fw5_of (by omega) (by omega) c1 c2 c3) hlR3 (fun σ4 v1 v2 v3 v4 => ?_)
  have hlL4 := u4.kept (h' := σ4.1) v3 (fun a q1 q2 => v1 a (by omega)) (fun _ z => z)
  have ho4 := (v1 b (by omega)).trans ho3
  have n42 : σ4.2 = σ2.2 := v2.trans u2
  have hwf4 : wf σ4 := by
    intro a c hc
    rw [n42]
    by_cases q : a < b + 18 ∨ b + 28 ≤ a
    · rw [v1 a (by omega), u1 a (by omega)] at hc
      exact e5 _ _ hc
    · omega
  have hC4 : CS g b R σ4 S := by
    have e21 : σ4.2.1 = σ2.2.1 := by rw [n42]
    refine hC2.lists (fun a q1 q2 => (v1 a (by omega)).trans (u1 a (by omega))) (by omega) hwf4 S.2.2.2.1 (fun p hp => ?_) ⟨_, by rw [e21]; exact hlL4⟩ ⟨_, by rw [e21]; exact v4⟩
    rw [e21]
    exact (hls2 p hp).kept (fun a ha => (v3 a ha).trans (u3 a ha)) (fun a q1 q2 => (v1 a (by omega)).trans (u1 a (by omega))) (fun _ z => z)
  have hfr : cfr b R σ σ4 2 6 := by
    refine ⟨fun a ha => (v1 a (by omega)).trans ((u1 a (by omega)).trans ((j1 a (by omega) (by omega)).trans (k1 a (by omega) (by omega)))), ?_, ?_, ?_, ?_⟩ <;> rw [n42] <;> omega
  refine aw_run 1 (F' := (78, [some (.ref b), some (.int (nI i)), some (.int (nI j)), some (.int (bI it))], [.ref b])) rfl ?_
  refine aw_get rfl ho4 rfl ?_
  refine aw_run 1 (F' := (82, [some (.ref b), some (.int (nI i)), some (.int (nI j)), some (.int (bI it))], [.ref b, .ref (b + 18)])) rfl ?_
  refine aw_get rfl ho4 rfl ?_
  obtain ⟨⟨p1, fv, fo, p2, p3, p4, p5⟩, p6, -, -⟩ := hlL4
  obtain ⟨⟨q1, fv2, fo2, q2, q3, q4, q5⟩, q6, -, -⟩ := v4
  refine aw_v [.ref (b + 18), .ref (b + 23)] [] rfl (by decide) rfl p2 rfl rfl (Nat.le_of_ble_eq_true rfl) (Nat.le_of_ble_eq_true rfl) ?_
  refine c_sh (d := d) (Z := Zc g b R σ2.2.1) (by omega) p2 p1 p3 (fun j x hx => ?_) p6 q2 q1 q3 (fun j x hx => ?_) (sp_srt_so _) (sp_srt_so _) (fun z => ?_) (fun z => ?_)
  · obtain ⟨a, b1, b2, b3⟩ := p5 j x.1 x.2 hx
    exact ⟨a, b1, b2⟩
  · obtain ⟨a, b1, b2, b3⟩ := q5 j x.1 x.2 hx
    exact ⟨a, b1, b2⟩
  · rw [sp_shr_mt] at z
    have hr' : sp_meet S (nI i) (nI j) it = true := by rw [hr]; exact decide_eq_true ⟨hP, hL, hL2, z⟩
    have := hQ σ4 hC4 hfr
    rw [hr'] at this
    exact aw_iret rfl ⟨_, rfl, rfl⟩ this
  · rw [sp_shr_mt] at z
    have hr' : sp_meet S (nI i) (nI j) it = false := by rw [hr]; exact decide_eq_false (fun y => z y.2.2.2)
    have := hQ σ4 hC4 hfr
    rw [hr'] at this
    exact aw_iret rfl ⟨_, rfl, rfl⟩ this
end P53
end
section
/-! feed -/
def sp_byte (y : Int32) : Nat := y.toBitVec.toNat % 256
theorem sp_byte_lt (y : Int32) : sp_byte y < 256 := Nat.mod_lt _ (by decide)
theorem sb_nar (y : Int32) : vp_nar .byte (y.toInt8.toInt32) = sb_b (sp_byte y) := by
  have h : y.toInt8 = (nI (sp_byte y)).toInt8 := by
    apply Int8.toBitVec.inj
    apply BitVec.eq_of_toNat_eq
    rw [Int32.toBitVec_toInt8, Int32.toBitVec_toInt8, BitVec.signExtend_eq_setWidth_of_le _ (by decide), BitVec.signExtend_eq_setWidth_of_le _ (by decide), BitVec.toNat_setWidth, BitVec.toNat_setWidth, pk_tn (by have := sp_byte_lt y; omega)]
    unfold sp_byte
    omega
  show (y.toInt8.toInt32).toInt8.toInt32 = (nI (sp_byte y)).toInt8.toInt32
  rw [Int8.toInt8_toInt32, h]
def sp_up (β : Nat → Nat) (i v : Nat) : Nat → Nat := fun j => if j = i then v else β j
def sp_put (T : (Nat → Nat) × Nat) (x : Int32) : (Nat → Nat) × Nat := (sp_up (sp_up (sp_up (sp_up T.1 T.2 (sp_byte (x >>> ((24 : Int32) &&& 31)))) (T.2 + 1) (sp_byte (x >>> ((16 : Int32) &&& 31)))) (T.2 + 2) (sp_byte (x >>> ((8 : Int32) &&& 31)))) (T.2 + 3) (sp_byte (x >>> ((0 : Int32) &&& 31))), T.2 + 4)
def sp_feed (S : sp_S) (x1 x2 x3 x4 x5 : Int32) : sp_S × Int32 := if 2000 < S.2.1 + 20 then (S, -1) else (((sp_put (sp_put (sp_put (sp_put (sp_put (S.1, S.2.1) x1) x2) x3) x4) x5).1, (sp_put (sp_put (sp_put (sp_put (sp_put (S.1, S.2.1) x1) x2) x3) x4) x5).2, S.2.2), nI (S.2.1 + 20))
/-- the tape while bytes come onto it -/
def tst (σ0 σ : am_H) (b : Nat) (T : (Nat → Nat) × Nat) (w6 : Value) : Prop := (∀ a, a ≠ b → a ≠ b + 1 → σ.1 a = σ0.1 a) ∧ σ.2 = σ0.2 ∧ σ.1 b = some (.inr (0, [.ref (b + 1), .int (nI T.2), .ref (b + 2), .ref (b + 7), .ref (b + 18), .ref (b + 23), .ref (b + 28), w6])) ∧ byf σ.1 (b + 1) 2000 T.1
section P54
variable {g : Nat × Nat} {d b R : Nat} {σ : am_H} {S : sp_S} {Q : Option Value → am_H → Prop}
theorem c_put1 {σ0 : am_H} {T : (Nat → Nat) × Nat} {w6 : Value} {x sh : Int32} (hg : g.1 ≤ b) (ht : tst σ0 σ b T w6) (hT : T.2 < 2000) (hsh : ¬ sh < 0) (hQ : ∀ σ' : am_H, tst σ0 σ' b (sp_up T.1 T.2 (sp_byte (x >>> (sh &&& 31))), T.2 + 1) w6 → AW g d 5 (3, [some (.ref b), some (.int x), some (.int (sh + -8))], []) σ' Q) : AW g d 5 (3, [some (.ref b), some (.int x), some (.int sh)], []) σ Q := by
  obtain ⟨t1, t2, t3, t4⟩ := ht
  obtain ⟨hN, f, hb, hbf⟩ := t4
  refine aw_run 1 (F' := (4, [some (.ref b), some (.int x), some (.int sh)], [.int sh])) rfl ?_
  refine aw_zlt rfl (fun z => absurd z hsh) (fun _ => ?_)
  refine aw_run 1 (F' := (8, [some (.ref b), some (.int x), some (.int sh)], [.ref b])) rfl ?_
  refine aw_get rfl t3 rfl ?_
  refine aw_run 1 (F' := (12, [some (.ref b), some (.int x), some (.int sh)], [.ref b, .int (nI T.2)])) rfl ?_
  refine aw_get rfl t3 rfl ?_
  refine aw_len rfl hb (by decide) ?_
  refine aw_cge rfl (fun z => absurd ((nI_leI (a := 2000) (by omega) (by omega)).mp z) (by omega)) (fun _ => ?_)
  refine aw_run 1 (F' := (20, [some (.ref b), some (.int x), some (.int sh)], [.ref b])) rfl ?_
  refine aw_get rfl t3 rfl ?_
  refine aw_run 1 (F' := (24, [some (.ref b), some (.int x), some (.int sh)], [.ref b, .ref (b + 1)])) rfl ?_
  refine aw_get rfl t3 rfl ?_
  refine aw_run 4 (F' := (31, [some (.ref b), some (.int x), some (.int sh)], [.int ((x >>> (sh &&& 31)).toInt8.toInt32), .int (nI T.2), .ref (b + 1)])) rfl ?_
  refine aw_bast rfl (by omega) hb (vp_in_nI hT (by omega)) ?_
  rw [nI_clamp (by omega)]
  rw [sb_nar]
  have hb1 : byf (am_set σ (b + 1) (.inl (1, 2000, .inl (upd f T.2 (sb_b (sp_byte (x >>> (sh &&& 31)))))))).1 (b + 1) 2000 (sp_up T.1 T.2 (sp_byte (x >>> (sh &&& 31)))) := by
    refine ⟨hN, _, am_set_same _ _ _, fun i hi => ?_⟩
    unfold sp_up
    by_cases q : i = T.2
    · rw [if_pos q, q, pk_us]
      exact ⟨sp_byte_lt _, rfl⟩
    · rw [if_neg q, pk_un q]
      exact hbf i hi
  have ho1 := (am_set_ne σ (.inl (1, 2000, .inl (upd f T.2 (sb_b (sp_byte (x >>> (sh &&& 31))))))) (show b ≠ b + 1 by omega)).trans t3
  have hk1 : ∀ a, a ≠ b → a ≠ b + 1 → (am_set σ (b + 1) (.inl (1, 2000, .inl (upd f T.2 (sb_b (sp_byte (x >>> (sh &&& 31)))))))).1 a = σ0.1 a := fun a q1 q2 => (am_set_ne _ _ q2).trans (t1 a q1 q2)
  have hn1 : (am_set σ (b + 1) (.inl (1, 2000, .inl (upd f T.2 (sb_b (sp_byte (x >>> (sh &&& 31)))))))).2 = σ0.2 := t2
  generalize am_set σ (b + 1) (.inl (1, 2000, .inl (upd f T.2 (sb_b (sp_byte (x >>> (sh &&& 31))))))) = σ1 at hb1 ho1 hk1 hn1 ⊢
  refine aw_run 2 (F' := (34, [some (.ref b), some (.int x), some (.int sh)], [.ref b, .ref b])) rfl ?_
  refine aw_get rfl ho1 rfl ?_
  refine aw_run 2 (F' := (39, [some (.ref b), some (.int x), some (.int sh)], [.int (nI T.2 + 1), .ref b])) rfl ?_
  rw [nI_1]
  refine aw_put rfl hg ho1 (Nat.le_of_ble_eq_true rfl) rfl rfl ?_
  refine aw_run 2 (F' := (3, [some (.ref b), some (.int x), some (.int (sh + -8))], [])) rfl ?_
  exact hQ _ ⟨fun a q1 q2 => (am_set_ne _ _ q1).trans (hk1 a q1 q2), hn1, am_set_same _ _ _, hb1.kept (am_set_ne _ _ (by omega))⟩
/-- putNumber -/
theorem c_putn {σ0 : am_H} {T : (Nat → Nat) × Nat} {w6 : Value} {x : Int32} (hg : g.1 ≤ b) (ht : tst σ0 σ b T w6) (hT : T.2 + 4 ≤ 2000) (hQ : ∀ σ' : am_H, tst σ0 σ' b (sp_put T x) w6 → Q none σ') : AW g d 5 (0, [some (.ref b), some (.int x), none], []) σ Q := by
  refine aw_run 2 (F' := (3, [some (.ref b), some (.int x), some (.int 24)], [])) rfl ?_
  refine c_put1 hg ht (by omega) (by decide) (fun σ1 h1 => ?_)
  refine c_put1 hg h1 (by show T.2 + 1 < 2000; omega) (by decide) (fun σ2 h2 => ?_)
  refine c_put1 hg h2 (by show T.2 + 1 + 1 < 2000; omega) (by decide) (fun σ3 h3 => ?_)
  refine c_put1 hg h3 (by show T.2 + 1 + 1 + 1 < 2000; omega) (by decide) (fun σ4 h4 => ?_)
  refine aw_run 1 (F' := (4, [some (.ref b), some (.int x), some (.int (24 + -8 + -8 + -8 + -8))], [.int (24 + -8 + -8 + -8 + -8)])) rfl ?_
  refine aw_zlt rfl (fun _ => ?_) (fun z => absurd (by decide) z)
  exact aw_vret rfl rfl (hQ σ4 h4)
/-- tape and path are others, all else is as it was -/
theorem cs_tape {σ' : am_H} {T : (Nat → Nat) × Nat} {P : List (List Nat)} {st : Option Nat} (hC : CS g b R σ S) (h1 : ∀ a, a < σ.2.1 → a ≠ b → a ≠ b + 1 → σ'.1 a = σ.1 a) (hle : σ.2.1 ≤ σ'.2.1) (hw : wf σ') (hT : T.2 ≤ 2000) (ho : σ'.1 b = some (.inr (0, [.ref (b + 1), .int (nI T.2), .ref (b + 2), .ref (b + 7), .ref (b + 18), .ref (b + 23), .ref (b + 28), va_rf st]))) (hb : byf σ'.1 (b + 1) 2000 T.1) (hst : stc (Zc g b R σ'.2.1) σ'.1 P st) : CS g b R σ' (T.1, T.2, S.2.2.1, S.2.2.2.1, P) := by
  obtain ⟨c1, c2, c3, c4, c5, c6, c7, c8, -, ⟨fs, c11, c12⟩, ⟨fl, c13, c14⟩, c15, ⟨X2, c16⟩, ⟨X3, c17⟩, c18⟩ := hC
  have hz : ∀ a, Zc g b R σ.2.1 a → σ'.1 a = σ.1 a := by
    intro a ha
    unfold Zc at ha
    exact h1 a (by omega) (by omega) (by omega)
  have hm := Zc.mono (g := g) (b := b) (R := R) hle
  refine ⟨c1, c2, c3, by omega, hw, c6.kept (h1 _ (by omega) (by omega) (by omega)), hT, hb, ⟨st, ho, hst⟩, ⟨fs, (h1 _ (by omega) (by omega) (by omega)).trans c11, fun j hj => ?_⟩, ⟨fl, (h1 _ (by omega) (by omega) (by omega)).trans c13, c14⟩, fun j hj => (c15 j hj).kept hz (fun a q1 q2 => h1 a (by omega) (by omega) (by omega)) hm, ⟨X2, c16.kept hz (fun a q1 q2 => h1 a (by omega) (by omega) (by omega)) hm⟩, ⟨X3, c17.kept hz (fun a q1 q2 => h1 a (by omega) (by omega) (by omega)) hm⟩, c18.kept hz hm⟩
  obtain ⟨k1, a, k2, k3⟩ := c12 j hj
  exact ⟨k1, a, k2, k3.kept hz hm⟩
/-- feed -/
theorem c_feed (hC : CS g b R σ S) (x1 x2 x3 x4 x5 : Int32) (hQ : ∀ σ' : am_H, CS g b R σ' (sp_feed S x1 x2 x3 x4 x5).1 → cfr b R σ σ' 0 0 → Q (some (.int (sp_feed S x1 x2 x3 x4 x5).2)) σ') : AW g (d + 1) 4 (0, [some (.ref b), some (.int x1), some (.int x2), some (.int x3), some (.int x4), some (.int x5)], []) σ Q := by
  have hC' := hC
  obtain ⟨c1, c2, c3, c4, c5, c6, c7, c8, ⟨st, ho, hst⟩, -⟩ := hC'
  refine aw_run 1 (F' := (1, [some (.ref b), some (.int x1), some (.int x2), some (.int x3), some (.int x4), some (.int x5)], [.ref b])) rfl ?_
  refine aw_get rfl ho rfl ?_
  refine aw_run 3 (F' := (10, [some (.ref b), some (.int x1), some (.int x2), some (.int x3), some (.int x4), some (.int x5)], [.int (nI 2000), .int (nI S.2.1 + nI 20)])) rfl ?_
  rw [nI_add]
  unfold sp_feed at hQ
  refine aw_cle rfl (fun z => ?_) (fun z => ?_)
  rotate_left
  · have z' : ¬ S.2.1 + 20 ≤ 2000 := fun y => z ((nI_leI (by omega) (by omega)).mpr y)
    rw [if_pos (by omega)] at hQ
    refine aw_run 1 (F' := (14, [some (.ref b), some (.int x1), some (.int x2), some (.int x3), some (.int x4), some (.int x5)], [.int (-1)])) rfl ?_
    exact aw_iret rfl ⟨_, rfl, rfl⟩ (hQ σ hC cfr.self)
  have z' := (nI_leI (by omega) (by omega)).mp z
  rw [if_neg (by omega)] at hQ
  have ht0 : tst σ σ b (S.1, S.2.1) (va_rf st) := ⟨fun _ _ _ => rfl, rfl, ho, c8⟩
  refine aw_run 2 (F' := (17, [some (.ref b), some (.int x1), some (.int x2), some (.int x3), some (.int x4), some (.int x5)], [.int x1, .ref b])) rfl ?_
  refine aw_v [.ref b, .int x1] [] rfl (by decide) rfl ho rfl rfl (Nat.le_of_ble_eq_true rfl) (Nat.le_of_ble_eq_true rfl) ?_
  refine c_putn c1 ht0 (by show S.2.1 + 4 ≤ 2000; omega) (fun σ1 h1 => ?_)
  refine aw_run 2 (F' := (22, [some (.ref b), some (.int x1), some (.int x2), some (.int x3), some (.int x4), some (.int x5)], [.int x2, .ref b])) rfl ?_
  refine aw_v [.ref b, .int x2] [] rfl (by decide) rfl h1.2.2.1 rfl rfl (Nat.le_of_ble_eq_true rfl) (Nat.le_of_ble_eq_true rfl) ?_
  refine c_putn c1 h1 (by show S.2.1 + 4 + 4 ≤ 2000; omega) (fun σ2 h2 => ?_)
  refine aw_run 2 (F' := (27, [some (.ref b), some (.int x1), some (.int x2), some (.int x3), some (.int x4), some (.int x5)], [.int x3, .ref b])) rfl ?_
  refine aw_v [.ref b, .int x3] [] rfl (by decide) rfl h2.2.2.1 rfl rfl (Nat.le_of_ble_eq_true rfl) (Nat.le_of_ble_eq_true rfl) ?_
  refine c_putn c1 h2 (by show S.2.1 + 4 + 4 + 4 ≤ 2000; omega) (fun σ3 h3 => ?_)
  refine aw_run 2 (F' := (33, [some (.ref b), some (.int x1), some (.int x2), some (.int x3), some (.int x4), some (.int x5)], [.int x4, .ref b])) rfl ?_
  refine aw_v [.ref b, .int x4] [] rfl (by decide) rfl h3.2.2.1 rfl rfl (Nat.le_of_ble_eq_true rfl) (Nat.le_of_ble_eq_true rfl) ?_
  refine c_putn c1 h3 (by show S.2.1 + 4 + 4 + 4 + 4 ≤ 2000; omega) (fun σ4 h4 => ?_)
  refine aw_run 2 (F' := (39, [some (.ref b), some (.int x1), some (.int x2), some (.int x3), some (.int x4), some (.int x5)], [.int x5, .ref b])) rfl ?_
  refine aw_v [.ref b, .int x5] [] rfl (by decide) rfl h4.2.2.1 rfl rfl (Nat.le_of_ble_eq_true rfl) (Nat.le_of_ble_eq_true rfl) ?_
  refine c_putn c1 h4 (by show S.2.1 + 4 + 4 + 4 + 4 + 4 ≤ 2000; omega) (fun σ5 h5 => ?_)
  refine aw_run 1 (F' := (43, [some (.ref b), some (.int x1), some (.int x2), some (.int x3), some (.int x4), some (.int x5)], [.ref b])) rfl ?_
  refine aw_get rfl h5.2.2.1 rfl ?_
  obtain ⟨q1, q2, q3, q4⟩ := h5
  have e21 : σ5.2.1 = σ.2.1 := by rw [q2]
  have hwf : wf σ5 := by
    intro a c hc
    rw [e21]
    by_cases q : a = b ∨ a = b + 1
    · omega
    · rw [q1 a (by omega) (by omega)] at hc
      exact c5 _ _ hc
  have hst' : stc (Zc g b R σ5.2.1) σ5.1 S.2.2.2.2 st := by
    rw [e21]
    refine hst.kept (fun a ha => ?_) (fun _ z => z)
    unfold Zc at ha
    exact q1 a (by omega) (by omega)
  refine aw_iret rfl ⟨_, rfl, rfl⟩ (hQ σ5 (cs_tape hC (fun a _ p1 p2 => q1 a p1 p2) (by omega) hwf (by show S.2.1 + 4 + 4 + 4 + 4 + 4 ≤ 2000; omega) q3 q4 hst') ⟨fun a ha => q1 a (by omega) (by omega), by omega, by omega, ?_, ?_⟩)
  · rw [q2]; exact Nat.le_refl _
  · rw [q2]; exact Nat.le_refl _
end P54
end
section
/-! path -/
def sp_path (S : sp_S) (n : Int32) : sp_S × Int32 := match sp_ix n (S.2.1 + 1) with
  | none => (S, -2)
  | some k => match sp_pth S.1 k with
    | none => ((S.1, 0, S.2.2), -1)
    | some P => ((S.1, 0, S.2.2.1, S.2.2.2.1, P), nI P.length)
section P55
variable {g : Nat × Nat} {d b R : Nat} {σ : am_H} {S : sp_S} {Q : Option Value → am_H → Prop}
theorem c_path (hC : CS g b R σ S) (n : Int32) (hQ : ∀ σ' : am_H, CS g b R σ' (sp_path S n).1 → cfr b R σ σ' 16 (24 + (S.2.1 - (sp_path S n).1.2.1)) → Q (some (.int (sp_path S n).2)) σ') : AW g (d + 5) 28 (0, [some (.ref b), some (.int n), none], []) σ Q := by
  have hC' := hC
  obtain ⟨c1, c2, c3, c4, c5, c6, c7, c8, ⟨st, ho, hst⟩, -⟩ := hC'
  refine aw_run 2 (F' := (2, [some (.ref b), some (.int n), none], [.int n, .ref b])) rfl ?_
  refine aw_v [.ref b, .int n] [] rfl (by decide) rfl ho rfl rfl (Nat.le_of_ble_eq_true rfl) (Nat.le_of_ble_eq_true rfl) ?_
  refine c_tap hC n (fun k hk er ek => ?_) (fun e => ?_)
  rotate_left
  · have hr : sp_path S n = (S, -2) := by unfold sp_path; rw [e]
    rw [hr] at hQ
    refine aw_zne rfl (fun z => absurd rfl z) (fun _ => ?_)
    refine aw_run 1 (F' := (10, [some (.ref b), some (.int n), none], [.int (-2)])) rfl ?_
    exact aw_iret rfl ⟨_, rfl, rfl⟩ (hQ σ hC ⟨fun _ _ => rfl, by omega, by omega, by omega, by omega⟩)
  subst er
  have hr : sp_path S (nI k) = (match sp_pth S.1 k with
    | none => ((S.1, 0, S.2.2), -1)
    | some P => ((S.1, 0, S.2.2.1, S.2.2.2.1, P), nI P.length)) := by unfold sp_path; rw [ek]
  refine aw_zne rfl (fun _ => ?_) (fun z => absurd (by decide) z)
  refine aw_run 2 (F' := (13, [some (.ref b), some (.int (nI k)), none], [.int (nI 0), .ref b])) rfl ?_
  refine aw_put rfl c1 ho (Nat.le_of_ble_eq_true rfl) rfl rfl ?_
  have ho1 : (am_set σ b (.inr (0, [.ref (b + 1), .int (nI 0), .ref (b + 2), .ref (b + 7), .ref (b + 18), .ref (b + 23), .ref (b + 28), va_rf st]))).1 b = _ := am_set_same _ _ _
  have k1 : ∀ a, a ≠ b → (am_set σ b (.inr (0, [.ref (b + 1), .int (nI 0), .ref (b + 2), .ref (b + 7), .ref (b + 18), .ref (b + 23), .ref (b + 28), va_rf st]))).1 a = σ.1 a := fun a ha => am_set_ne _ _ ha
  have w1 : wf (am_set σ b (.inr (0, [.ref (b + 1), .int (nI 0), .ref (b + 2), .ref (b + 7), .ref (b + 18), .ref (b + 23), .ref (b + 28), va_rf st]))) := c5.set ho
  have n1 : (am_set σ b (.inr (0, [.ref (b + 1), .int (nI 0), .ref (b + 2), .ref (b + 7), .ref (b + 18), .ref (b + 23), .ref (b + 28), va_rf st]))).2 = σ.2 := rfl
  show AW g (d + 5) 28 (16, [some (.ref b), some (.int (nI k)), none], []) (am_set σ b (.inr (0, [.ref (b + 1), .int (nI 0), .ref (b + 2), .ref (b + 7), .ref (b + 18), .ref (b + 23), .ref (b + 28), va_rf st]))) Q
  generalize am_set σ b (.inr (0, [.ref (b + 1), .int (nI 0), .ref (b + 2), .ref (b + 7), .ref (b + 18), .ref (b + 23), .ref (b + 28), va_rf st])) = σ1 at ho1 k1 w1 n1 ⊢
  have n11 : σ1.2.1 = σ.2.1 := by rw [n1]
  have n12 : σ1.2.2 = σ.2.2 := by rw [n1]
  have ht : tok g σ1 (b + 1) 2000 S.1 := ⟨by omega, by omega, c2, w1, c8.kept (k1 _ (by omega)), c6.kept (k1 _ (by omega))⟩
  refine aw_run 1 (F' := (17, [some (.ref b), some (.int (nI k)), none], [.ref b])) rfl ?_
  refine aw_get rfl ho1 rfl ?_
  refine aw_run 1 (F' := (21, [some (.ref b), some (.int (nI k)), none], [.int (nI k), .ref (b + 1)])) rfl ?_
  refine aw_s [.ref (b + 1), .int (nI k)] [] rfl ⟨by decide, by decide⟩ rfl rfl (Nat.le_of_ble_eq_true rfl) (Nat.le_of_ble_eq_true rfl) ?_
  refine c_chn (d := d) ht (by omega) (fun σ2 h2 e2 => ?_) (fun P σ2 x e2 h2 hs2 => ?_)
  · rw [hr, e2] at hQ
    dsimp only at hQ
    obtain ⟨p1, p2, p3, p4, p5, p6⟩ := h2
    have k2 : ∀ a, a < σ.2.1 → a ≠ b → σ2.1 a = σ.1 a := fun a h1 h2 => (p1 a (by omega)).trans (k1 a h2)
    have hst2 : stc (Zc g b R σ2.2.1) σ2.1 S.2.2.2.2 st := hst.kept (fun a ha => by
      unfold Zc at ha
      exact k2 a (by omega) (by omega)) (Zc.mono (by omega))
    refine aw_run 2 (F' := (26, [some (.ref b), some (.int (nI k)), some .null], [.null])) rfl ?_
    refine aw_ifnon_n rfl ?_
    refine aw_run 1 (F' := (30, [some (.ref b), some (.int (nI k)), some .null], [.int (-1)])) rfl ?_
    refine aw_iret rfl ⟨_, rfl, rfl⟩ (hQ σ2 (cs_tape (T := (S.1, 0)) hC (fun a q1 q2 q3 => k2 a q1 q2) (by omega) p6 (by show 0 ≤ 2000; omega) ((p1 b (by omega)).trans ho1) (c8.kept (k2 _ (by omega) (by omega))) hst2) ⟨fun a ha => k2 a (by omega) (by omega), by omega, by omega, by omega, ?_⟩)
    show σ2.2.2 ≤ σ.2.2 + (24 + (S.2.1 - 0))
    omega
  · rw [hr, e2] at hQ
    dsimp only at hQ
    obtain ⟨p1, p2, p3, p4, p5, p6⟩ := h2
    have ho2 := (p1 b (by omega)).trans ho1
    rcases hs2.cnt with ⟨-, q⟩ | ⟨hne, a, w0, w1', ea, hac⟩
    · cases q
    have eax : x = a := Option.some.inj ea
    subst eax
    have hxl : σ1.2.1 ≤ x := by
      cases P with
      | nil => exact absurd rfl hne
      | cons s P =>
        obtain ⟨a', na, nx, h1, z1, -⟩ := hs2
        have : x = a' := Option.some.inj h1
        subst this
        rcases z1 with ⟨z, -⟩ | z
        · exact z
        · rcases Nat.lt_or_ge x σ1.2.1 with y | y
          · have := p1 x y
            obtain ⟨-, -, f, hg2, -⟩ := ht.2.2.2.2.2
            rw [← z, ← this, hac] at hg2
            cases hg2
          · exact y
    refine aw_run 2 (F' := (26, [some (.ref b), some (.int (nI k)), some (.ref x)], [.ref x])) rfl ?_
    refine aw_ifnon_r rfl ?_
    refine aw_run 2 (F' := (33, [some (.ref b), some (.int (nI k)), some (.ref x)], [.ref x, .ref b])) rfl ?_
    refine aw_put rfl c1 ho2 (Nat.le_of_ble_eq_true rfl) rfl rfl ?_
    have ho3 : (am_set σ2 b (.inr (0, [.ref (b + 1), .int (nI 0), .ref (b + 2), .ref (b + 7), .ref (b + 18), .ref (b + 23), .ref (b + 28), .ref x]))).1 b = _ := am_set_same _ _ _
    have k3 : ∀ a, a ≠ b → (am_set σ2 b (.inr (0, [.ref (b + 1), .int (nI 0), .ref (b + 2), .ref (b + 7), .ref (b + 18), .ref (b + 23), .ref (b + 28), .ref x]))).1 a = σ2.1 a := fun a ha => am_set_ne _ _ ha
    have w3 : wf (am_set σ2 b (.inr (0, [.ref (b + 1), .int (nI 0), .ref (b + 2), .ref (b + 7), .ref (b + 18), .ref (b + 23), .ref (b + 28), .ref x]))) := p6.set ho2
    have n3 : (am_set σ2 b (.inr (0, [.ref (b + 1), .int (nI 0), .ref (b + 2), .ref (b + 7), .ref (b + 18), .ref (b + 23), .ref (b + 28), .ref x]))).2 = σ2.2 := rfl
    show AW g (d + 5) 28 (36, [some (.ref b), some (.int (nI k)), some (.ref x)], []) (am_set σ2 b (.inr (0, [.ref (b + 1), .int (nI 0), .ref (b + 2), .ref (b + 7), .ref (b + 18), .ref (b + 23), .ref (b + 28), .ref x]))) Q
    generalize am_set σ2 b (.inr (0, [.ref (b + 1), .int (nI 0), .ref (b + 2), .ref (b + 7), .ref (b + 18), .ref (b + 23), .ref (b + 28), .ref x])) = σ3 at ho3 k3 w3 n3 ⊢
    have n31 : σ3.2.1 = σ2.2.1 := by rw [n3]
    have n32 : σ3.2.2 = σ2.2.2 := by rw [n3]
    have kk : ∀ a, a < σ.2.1 → a ≠ b → σ3.1 a = σ.1 a := fun a h1 h2 => (k3 a h2).trans ((p1 a (by omega)).trans (k1 a h2))
    have hst3 : stc (Zc g b R σ3.2.1) σ3.1 P (some x) := hs2.kept (fun a ha => by
      refine k3 a ?_
      rcases ha with ⟨z1, z2⟩ | z
      · omega
      · omega) (fun a ha => by
      unfold Zc
      rcases ha with ⟨z1, z2⟩ | z
      · omega
      · exact Or.inl z)
    refine aw_run 1 (F' := (37, [some (.ref b), some (.int (nI k)), some (.ref x)], [.ref x])) rfl ?_
    refine aw_get rfl ((k3 x (by omega)).trans hac) rfl ?_
    refine aw_iret rfl ⟨_, rfl, rfl⟩ (hQ σ3 (cs_tape (T := (S.1, 0)) (st := some x) hC (fun a q1 q2 q3 => kk a q1 q2) (by omega) w3 (by show 0 ≤ 2000; omega) ho3 (c8.kept (kk _ (by omega) (by omega))) hst3) ⟨fun a ha => kk a (by omega) (by omega), by omega, by omega, by omega, ?_⟩)
    show σ3.2.2 ≤ σ.2.2 + (24 + (S.2.1 - 0))
    omega
end P55
end
section
/-! read -/
theorem sp_ofL_hgt {k : Nat} : ∀ {l : List sp_V}, (∀ v ∈ l, sp_hgt v.2 + 1 ≤ k) → sp_hgt (sp_ofL l) ≤ k
  | [], _ => Nat.zero_le _
  | v :: l, h => by
    have h1 := h v List.mem_cons_self
    have h2 := sp_ofL_hgt (l := l) (fun w hw => h w (List.mem_cons_of_mem _ hw))
    show sp_hgt (.inner 0 v.1 () v.2 (sp_ofL l)) ≤ k
    rw [sp_hgt_in]
    omega
/-- what is read is not deeper than it may be -/
def dpE (E : Nat → Bool → Nat → Nat → List sp_V → Option (List sp_V)) : Prop := ∀ (dep : Nat) (row : Bool) (p e : Nat) (seen l : List sp_V), E dep row p e seen = some l → dep ≤ 16 → (∀ v ∈ seen, sp_hgt v.2 + dep ≤ 16) → ∀ v ∈ l, sp_hgt v.2 + dep ≤ 16
theorem sp_nst_hgt {E : Nat → Bool → Nat → Nat → List sp_V → Option (List sp_V)} (hE : dpE E) {β : Nat → Nat} {dep p e q : Nat} {row : Bool} {c : sp_F} (h : sp_nst E β dep row p e = some (c, q)) : dep ≤ 16 ∧ sp_hgt c + dep ≤ 17 := by
  unfold sp_nst at h
  split at h
  · cases h
  · rename_i h1
    split at h
    · cases h
    · split at h
      · cases h
      · rename_i l hl
        split at h
        · have hq := Option.some.inj h
          have hc : sp_ofL l = c := (Prod.mk.inj hq).1
          have hd : dep ≤ 16 := by omega
          have hv := hE dep row _ _ [] l hl hd (fun v hv => by cases hv)
          have := sp_ofL_hgt (k := 17 - dep) (l := l) (fun v hv' => by have := hv v hv'; omega)
          rw [hc] at this
          omega
        · cases h
theorem sp_el_hgt {E : Nat → Bool → Nat → Nat → List sp_V → Option (List sp_V)} (hE : dpE E) {β : Nat → Nat} {dep p e q : Nat} {v : sp_V} (hd : dep ≤ 16) (h : sp_el (sp_nst E β) β dep p e = some (v, q)) : sp_hgt v.2 + dep ≤ 16 := by
  have lf : ∀ {b : sp_B} {q' : Nat}, some ((b, (.leaf : sp_F)), q') = some (v, q) → sp_hgt v.2 + dep ≤ 16 := by
    intro b q' hq
    have : v = (b, .leaf) := ((Prod.mk.inj (Option.some.inj hq)).1).symm
    rw [this]
    show 0 + dep ≤ 16
    omega
  unfold sp_el at h
  split at h
  · cases h
  · split at h
    · cases h
    · split at h
      · split at h
        · exact lf h
        · cases h
      · split at h
        · split at h
          · exact lf h
          · cases h
        · split at h
          · split at h
            · exact lf h
            · cases h
          · split at h
            · exact lf h
            · split at h
              · split at h
                · exact lf h
                · cases h
              · split at h
                · split at h
                  · cases h
                  · rename_i c q' hn
                    have := sp_nst_hgt hE hn
                    have hv : v = ((3, sp_sub β (p + 1) _, 0, []), c) := ((Prod.mk.inj (Option.some.inj h)).1).symm
                    rw [hv]
                    show sp_hgt c + dep ≤ 16
                    omega
                · split at h
                  · split at h
                    · cases h
                    · rename_i c q' hn
                      have := sp_nst_hgt hE hn
                      have hv : v = ((4, sp_sub β (p + 1) _, 0, []), c) := ((Prod.mk.inj (Option.some.inj h)).1).symm
                      rw [hv]
                      show sp_hgt c + dep ≤ 16
                      omega
                  · cases h
theorem sp_es_hgt (β : Nat → Nat) : ∀ n, dpE (sp_es β n)
  | 0 => by
    intro dep row p e seen l h
    cases h
  | n + 1 => by
    intro dep row p e seen l h hd hs
    unfold sp_es at h
    split at h
    · split at h
      · cases h
        exact hs
      · cases h
    · split at h
      · cases h
      · rename_i v q hv
        split at h
        · refine sp_es_hgt β n dep row q e (seen ++ [v]) l h hd (fun w hw => ?_)
          rcases List.mem_append.mp hw with z | z
          · exact hs w z
          · rw [List.mem_singleton.mp z]
            exact sp_el_hgt (sp_es_hgt β n) hd hv
        · cases h
theorem sp_doc_hgt {β : Nat → Nat} {e : Nat} {c : sp_F} (h : sp_doc β e = some c) : sp_hgt c ≤ 16 := by
  unfold sp_doc at h
  split at h
  · cases h
  · rename_i c' q hn
    have := sp_nst_hgt (sp_es_hgt β 2000) hn
    split at h
    · have hc : c' = c := Option.some.inj h
      rw [← hc]
      omega
    · cases h
def sets (F : Nat → sp_F) (i : Nat) (c : sp_F) : Nat → sp_F := fun j => if j = i then c else F j
def sp_read (S : sp_S) (slot n : Int32) : sp_S × Int32 := match sp_ix slot 4, sp_ix n (S.2.1 + 1) with
  | some i, some k => (match sp_doc S.1 k with
    | none => ((S.1, 0, S.2.2), -1)
    | some c => ((S.1, 0, sets S.2.2.1 i c, S.2.2.2), nI (sp_len c)))
  | _, _ => (S, -2)
end
section
section P57
variable {g : Nat × Nat} {d b R : Nat} {σ : am_H} {S : sp_S} {Q : Option Value → am_H → Prop}
set_option maxHeartbeats 2000000 in
/-- read -/
theorem c_read (hD : decOK) (hC : CS g b R σ S) (slot n : Int32) (hQ : ∀ σ' : am_H, CS g b R σ' (sp_read S slot n).1 → cfr b R σ σ' (1 + 2 * (S.2.1 - (sp_read S slot n).1.2.1)) (2 + 10 * (S.2.1 - (sp_read S slot n).1.2.1)) → Q (some (.int (sp_read S slot n).2)) σ') : AW g (d + 40) 6 (0, [some (.ref b), some (.int slot), some (.int n), none], []) σ Q := by
  have hC' := hC
  obtain ⟨c1, c2, c3, c4, c5, c6, c7, c8, ⟨st, ho, hst⟩, ⟨fs, hs, hsl⟩, ⟨fl, c13, c14⟩, c15, ⟨X2, c16⟩, ⟨X3, c17⟩, c18⟩ := hC'
  have no : sp_read S slot n = (S, -2) → AW g (d + 40) 6 (16, [some (.ref b), some (.int slot), some (.int n), none], []) σ Q := by
    intro q
    rw [q] at hQ
    refine aw_run 1 (F' := (18, [some (.ref b), some (.int slot), some (.int n), none], [.int (-2)])) rfl ?_
    exact aw_iret rfl ⟨_, rfl, rfl⟩ (hQ σ hC ⟨fun _ _ => rfl, by omega, by omega, by omega, by omega⟩)
  refine aw_run 2 (F' := (2, [some (.ref b), some (.int slot), some (.int n), none], [.int slot, .ref b])) rfl ?_
  refine aw_v [.ref b, .int slot] [] rfl (by decide) rfl ho rfl rfl (Nat.le_of_ble_eq_true rfl) (Nat.le_of_ble_eq_true rfl) ?_
  refine c_slot hC slot (fun i hi er ei => ?_) (fun e => ?_)
  rotate_left
  · exact aw_zeq rfl (fun _ => no (by unfold sp_read; rw [e])) (fun z => absurd rfl z)
  refine aw_zeq rfl (fun z => absurd z (by decide)) (fun _ => ?_)
  refine aw_run 2 (F' := (10, [some (.ref b), some (.int slot), some (.int n), none], [.int n, .ref b])) rfl ?_
  refine aw_v [.ref b, .int n] [] rfl (by decide) rfl ho rfl rfl (Nat.le_of_ble_eq_true rfl) (Nat.le_of_ble_eq_true rfl) ?_
  refine c_tap hC n (fun k hk es ek => ?_) (fun e => ?_)
  rotate_left
  · exact aw_zne rfl (fun z => absurd rfl z) (fun _ => no (by unfold sp_read; rw [e, ei]))
  refine aw_zne rfl (fun _ => ?_) (fun z => absurd (by decide) z)
  have hr : sp_read S slot n = (match sp_doc S.1 k with
    | none => ((S.1, 0, S.2.2), -1)
    | some c => ((S.1, 0, sets S.2.2.1 i c, S.2.2.2), nI (sp_len c))) := by unfold sp_read; rw [ei, ek]; rfl
  subst er
  subst es
  refine aw_run 2 (F' := (21, [some (.ref b), some (.int (nI i)), some (.int (nI k)), none], [.int (nI 0), .ref b])) rfl ?_
  refine aw_put rfl c1 ho (Nat.le_of_ble_eq_true rfl) rfl rfl ?_
  have ho1 : (am_set σ b (.inr (0, [.ref (b + 1), .int (nI 0), .ref (b + 2), .ref (b + 7), .ref (b + 18), .ref (b + 23), .ref (b + 28), va_rf st]))).1 b = _ := am_set_same _ _ _
  have k1 : ∀ a, a ≠ b → (am_set σ b (.inr (0, [.ref (b + 1), .int (nI 0), .ref (b + 2), .ref (b + 7), .ref (b + 18), .ref (b + 23), .ref (b + 28), va_rf st]))).1 a = σ.1 a := fun a ha => am_set_ne _ _ ha
  have w1 : wf (am_set σ b (.inr (0, [.ref (b + 1), .int (nI 0), .ref (b + 2), .ref (b + 7), .ref (b + 18), .ref (b + 23), .ref (b + 28), va_rf st]))) := c5.set ho
  have n1 : (am_set σ b (.inr (0, [.ref (b + 1), .int (nI 0), .ref (b + 2), .ref (b + 7), .ref (b + 18), .ref (b + 23), .ref (b + 28), va_rf st]))).2 = σ.2 := rfl
  show AW g (d + 40) 6 (24, [some (.ref b), some (.int (nI i)), some (.int (nI k)), none], []) (am_set σ b (.inr (0, [.ref (b + 1), .int (nI 0), .ref (b + 2), .ref (b + 7), .ref (b + 18), .ref (b + 23), .ref (b + 28), va_rf st]))) Q
  generalize am_set σ b (.inr (0, [.ref (b + 1), .int (nI 0), .ref (b + 2), .ref (b + 7), .ref (b + 18), .ref (b + 23), .ref (b + 28), va_rf st])) = σ1 at ho1 k1 w1 n1 ⊢
  have n11 : σ1.2.1 = σ.2.1 := by rw [n1]
  have n12 : σ1.2.2 = σ.2.2 := by rw [n1]
  refine aw_new rfl ?_
  have hk2 := am_psh_same σ1 (.inr (3, am_def 3)) (am_nf 3)
  have ho2' : (am_psh σ1 (.inr (3, am_def 3)) (am_nf 3)).1 b = _ := (am_psh_ne _ _ _ (by omega)).trans ho1
  refine aw_run 2 (F' := (29, [some (.ref b), some (.int (nI i)), some (.int (nI k)), none], [.ref b, .ref σ1.2.1, .ref σ1.2.1])) rfl ?_
  refine aw_get rfl ho2' rfl ?_
  refine aw_i [.ref σ1.2.1, .ref (b + 1)] [.ref σ1.2.1] rfl (by decide) rfl rfl rfl (Nat.le_of_ble_eq_true rfl) (Nat.le_of_ble_eq_true rfl) ?_
  refine c_rnew (d := d + 38) (by omega) hk2 ?_
  rw [am_set_psh, n11]
  have hk3 := am_psh_same σ1 (.inr (3, [.ref (b + 1), .int 0])) (am_nf 3)
  have kp3 : ∀ a, a < σ.2.1 → (am_psh σ1 (.inr (3, [.ref (b + 1), .int 0])) (am_nf 3)).1 a = σ1.1 a := fun a ha => am_psh_ne _ _ _ (by omega)
  have w3 : wf (am_psh σ1 (.inr (3, [.ref (b + 1), .int 0])) (am_nf 3)) := w1.psh
  have n31 : (am_psh σ1 (.inr (3, [.ref (b + 1), .int 0])) (am_nf 3)).2.1 = σ.2.1 + 1 := by show σ1.2.1 + 1 = _; omega
  have n32 : (am_psh σ1 (.inr (3, [.ref (b + 1), .int 0])) (am_nf 3)).2.2 = σ.2.2 + 2 := by show σ1.2.2 + 2 = _; omega
  rw [n11] at hk3
  show AW g (d + 40) 6 (35, [some (.ref b), some (.int (nI i)), some (.int (nI k)), none], [.ref σ.2.1]) (am_psh σ1 (.inr (3, [.ref (b + 1), .int 0])) (am_nf 3)) Q
  generalize am_psh σ1 (.inr (3, [.ref (b + 1), .int 0])) (am_nf 3) = σ3 at hk3 kp3 w3 n31 n32 ⊢
  have hok : rok g σ3 σ.2.1 (b + 1) 2000 0 S.1 := ⟨by omega, by omega, by omega, c2, w3, hk3, c8.kept ((kp3 _ (by omega)).trans (k1 _ (by omega))), c6.kept ((kp3 _ (by omega)).trans (k1 _ (by omega)))⟩
  refine aw_run 1 (F' := (36, [some (.ref b), some (.int (nI i)), some (.int (nI k)), none], [.int (nI k), .ref σ.2.1])) rfl ?_
  refine aw_v [.ref σ.2.1, .int (nI k)] [] rfl (by decide) rfl hk3 rfl rfl (Nat.le_of_ble_eq_true rfl) (Nat.le_of_ble_eq_true rfl) ?_
  refine c_whd (d := d) hD (Nat.le_refl _) hok (by omega) (fun e4 σ4 p' h4 => ?_) (fun c σ4 x e4 h4 hel => ?_)
  · rw [hr, e4] at hQ
    dsimp only at hQ
    obtain ⟨q1, q2, q3, q4, q5, q6, q7⟩ := h4
    have kk : ∀ a, a < σ.2.1 → a ≠ b → σ4.1 a = σ.1 a := fun a h1 h2 => (q2 a (by omega) (by omega)).trans ((kp3 a h1).trans (k1 a h2))
    have ho4 := (q2 b (by omega) (by omega)).trans ((kp3 b (by omega)).trans ho1)
    have hst4 : stc (Zc g b R σ4.2.1) σ4.1 S.2.2.2.2 st := hst.kept (fun a ha => by
      unfold Zc at ha
      exact kk a (by omega) (by omega)) (Zc.mono (by omega))
    refine aw_run 2 (F' := (41, [some (.ref b), some (.int (nI i)), some (.int (nI k)), some .null], [.null])) rfl ?_
    refine aw_ifnon_n rfl ?_
    refine aw_run 1 (F' := (45, [some (.ref b), some (.int (nI i)), some (.int (nI k)), some .null], [.int (-1)])) rfl ?_
    refine aw_iret rfl ⟨_, rfl, rfl⟩ (hQ σ4 (cs_tape (T := (S.1, 0)) hC (fun a q1 q2 q3 => kk a q1 q2) (by omega) q7 (by show 0 ≤ 2000; omega) ho4 (c8.kept (kk _ (by omega) (by omega))) hst4) ⟨fun a ha => kk a (by omega) (by omega), by omega, ?_, by omega, ?_⟩)
    · show σ4.2.1 ≤ σ.2.1 + (1 + 2 * (S.2.1 - 0))
      omega
    · show σ4.2.2 ≤ σ.2.2 + (2 + 10 * (S.2.1 - 0))
      omega
  · rw [hr, e4] at hQ
    dsimp only at hQ
    obtain ⟨q1, q2, q3, q4, q5, q6, q7⟩ := h4
    have kk : ∀ a, a < σ.2.1 → a ≠ b → σ4.1 a = σ.1 a := fun a h1 h2 => (q2 a (by omega) (by omega)).trans ((kp3 a h1).trans (k1 a h2))
    have ho4 := (q2 b (by omega) (by omega)).trans ((kp3 b (by omega)).trans ho1)
    have hs4 := (kk (b + 2) (by omega) (by omega)).trans hs
    have hvx := hel.vlz
    obtain ⟨zx0, fi, la, nx, ⟨kd0, cn0, na, ba, num, -, -, hxc, -⟩, -⟩ := id hvx
    dsimp only at hxc
    refine aw_run 2 (F' := (41, [some (.ref b), some (.int (nI i)), some (.int (nI k)), some (.ref x)], [.ref x])) rfl ?_
    refine aw_ifnon_r rfl ?_
    refine aw_run 1 (F' := (47, [some (.ref b), some (.int (nI i)), some (.int (nI k)), some (.ref x)], [.ref b])) rfl ?_
    refine aw_get rfl ho4 rfl ?_
    refine aw_run 2 (F' := (52, [some (.ref b), some (.int (nI i)), some (.int (nI k)), some (.ref x)], [.ref x, .int (nI i), .ref (b + 2)])) rfl ?_
    refine aw_aast rfl (by omega) hs4 rfl hxc (vp_in_nI hi (by omega)) ?_
    rw [nI_clamp (by omega)]
    have hs5 := am_set_same σ4 (b + 2) (.inl (3, 4, .inr (.inr (.inr (.inr (va_up fs i (some x)))))))
    have k5 : ∀ a, a ≠ b + 2 → (am_set σ4 (b + 2) (.inl (3, 4, .inr (.inr (.inr (.inr (va_up fs i (some x)))))))).1 a = σ4.1 a := fun a ha => am_set_ne _ _ ha
    have w5 : wf (am_set σ4 (b + 2) (.inl (3, 4, .inr (.inr (.inr (.inr (va_up fs i (some x)))))))) := q7.set hs4
    have n5 : (am_set σ4 (b + 2) (.inl (3, 4, .inr (.inr (.inr (.inr (va_up fs i (some x)))))))).2 = σ4.2 := rfl
    generalize am_set σ4 (b + 2) (.inl (3, 4, .inr (.inr (.inr (.inr (va_up fs i (some x))))))) = σ5 at hs5 k5 w5 n5 ⊢
    have n51 : σ5.2.1 = σ4.2.1 := by rw [n5]
    have n52 : σ5.2.2 = σ4.2.2 := by rw [n5]
    have xlo : σ3.2.1 ≤ x := hel.1
    have kk5 : ∀ a, a < σ.2.1 → a ≠ b → a ≠ b + 2 → σ5.1 a = σ.1 a := fun a h1 h2 h3 => (k5 a h3).trans (kk a h1 h2)
    have hz5 : ∀ a, Zc g b R σ.2.1 a → σ5.1 a = σ.1 a := by
      intro a ha
      unfold Zc at ha
      exact kk5 a (by omega) (by omega) (by omega)
    have hm5 := Zc.mono (g := g) (b := b) (R := R) (show σ.2.1 ≤ σ5.2.1 by omega)
    have hv5 : vlz (Zc g b R σ5.2.1) σ5.1 x (sp_dv c) := hvx.kept (fun a ha => by
      refine k5 a ?_
      rcases ha with ⟨z1, z2⟩ | z <;> omega) (fun a ha => by
      unfold Zc
      rcases ha with ⟨z1, z2⟩ | z
      · omega
      · exact Or.inl z)
    have hCn : CS g b R σ5 (S.1, 0, sets S.2.2.1 i c, S.2.2.2) := by
      refine ⟨c1, c2, c3, by omega, w5, c6.kept (kk5 _ (by omega) (by omega) (by omega)), by show 0 ≤ 2000; omega, c8.kept (kk5 _ (by omega) (by omega) (by omega)), ⟨st, (k5 b (by omega)).trans ho4, hst.kept hz5 hm5⟩, ⟨va_up fs i (some x), hs5, fun j hj => ?_⟩, ⟨fl, (kk5 _ (by omega) (by omega) (by omega)).trans c13, c14⟩, fun j hj => (c15 j hj).kept hz5 (fun a q1 q2 => kk5 a (by omega) (by omega) (by omega)) hm5, ⟨X2, c16.kept hz5 (fun a q1 q2 => kk5 a (by omega) (by omega) (by omega)) hm5⟩, ⟨X3, c17.kept hz5 (fun a q1 q2 => kk5 a (by omega) (by omega) (by omega)) hm5⟩, c18.kept hz5 hm5⟩
      show sp_hgt (sets S.2.2.1 i c j) ≤ 16 ∧ ∃ a, va_up fs i (some x) j = some a ∧ vlz (Zc g b R σ5.2.1) σ5.1 a (sp_dv (sets S.2.2.1 i c j))
      unfold sets
      by_cases q : j = i
      · rw [if_pos q, q]
        exact ⟨sp_doc_hgt e4, x, va_up_s, hv5⟩
      · rw [if_neg q, va_up_n q]
        obtain ⟨r1, a, r2, r3⟩ := hsl j hj
        exact ⟨r1, a, r2, r3.kept hz5 hm5⟩
    refine aw_run 1 (F' := (54, [some (.ref b), some (.int (nI i)), some (.int (nI k)), some (.ref x)], [.ref x])) rfl ?_
    refine aw_get rfl ((k5 x (by omega)).trans hxc) rfl ?_
    have hcnt : (([] : List Nat).length + sp_len c) = sp_len c := Nat.zero_add _
    rw [hcnt]
    refine aw_iret rfl ⟨_, rfl, rfl⟩ (hQ σ5 hCn ⟨fun a ha => kk5 a (by omega) (by omega) (by omega), by omega, ?_, by omega, ?_⟩)
    · show σ5.2.1 ≤ σ.2.1 + (1 + 2 * (S.2.1 - 0))
      omega
    · show σ5.2.2 ≤ σ.2.2 + (2 + 10 * (S.2.1 - 0))
      omega
end P57
end
section
section P58
variable {g : Nat × Nat} {d b R : Nat} {σ : am_H} {S : sp_S} {Q : Option Value → am_H → Prop}
/-- ValueList's constructor -/
theorem c_lnew {w : Nat} (hg : g.1 ≤ w) (hw : σ.1 w = some (.inr (2, am_def 2))) (hn : σ.2.1 = w + 1) (hwf : wf σ) (hQ : ∀ σ' : am_H, (∀ a, a < w → σ'.1 a = σ.1 a) → σ'.2.1 = w + 5 → σ'.2.2 = σ.2.2 + 2000 → wf σ' → (∀ Z, lsx Z σ'.1 w []) → Q none σ') : AW g (d + 1) 3 (0, [some (.ref w)], []) σ Q := by
  have arr : ∀ {c : am_C} {τ : am_H} {fs fs' : List Value}, τ.1 w = some (.inr (2, fs)) → w < τ.2.1 → wf τ → (∀ a, a < w → (am_set (am_psh τ c 500) w (.inr (2, fs'))).1 a = τ.1 a) ∧ (∀ a, w < a → a < τ.2.1 → (am_set (am_psh τ c 500) w (.inr (2, fs'))).1 a = τ.1 a) ∧ (am_set (am_psh τ c 500) w (.inr (2, fs'))).1 τ.2.1 = some c ∧ (am_set (am_psh τ c 500) w (.inr (2, fs'))).1 w = some (.inr (2, fs')) ∧ (am_set (am_psh τ c 500) w (.inr (2, fs'))).2.1 = τ.2.1 + 1 ∧ (am_set (am_psh τ c 500) w (.inr (2, fs'))).2.2 = τ.2.2 + 500 ∧ wf (am_set (am_psh τ c 500) w (.inr (2, fs'))) := by
    intro c τ fs fs' h1 h2 h3
    have h4 : (am_psh τ c 500).1 w = some (.inr (2, fs)) := (am_psh_ne _ _ _ (by omega)).trans h1
    exact ⟨fun a ha => (am_set_ne _ _ (by omega)).trans (am_psh_ne _ _ _ (by omega)), fun a h5 h6 => (am_set_ne _ _ (by omega)).trans (am_psh_ne _ _ _ (by omega)), (am_set_ne _ _ (by omega)).trans (am_psh_same _ _ _), am_set_same _ _ _, rfl, rfl, h3.psh.set h4⟩
  have e500 : (nI 500).toNatClampNeg = 500 := by decide
  refine aw_run 1 (F' := (1, [some (.ref w)], [.ref w])) rfl ?_
  refine aw_obj rfl (Nat.le_of_ble_eq_true rfl) (by omega) ?_
  refine aw_run 2 (F' := (8, [some (.ref w)], [.int (nI 500), .ref w])) rfl ?_
  refine aw_nwq rfl (by decide) (by decide) ?_
  rw [e500]
  refine aw_put rfl hg ((am_psh_ne _ _ _ (by omega)).trans hw) (Nat.le_of_ble_eq_true rfl) rfl rfl ?_
  obtain ⟨a1, a2, a3, a4, a5, a6, a7⟩ := arr (c := cA3 (fun _ => none)) (fs' := (am_def 2).set 0 (.ref σ.2.1)) hw (by omega) hwf
  generalize am_set (am_psh σ (cA3 (fun _ => none)) 500) w (.inr (2, (am_def 2).set 0 (.ref σ.2.1))) = σ1 at a1 a2 a3 a4 a5 a6 a7 ⊢
  refine aw_run 2 (F' := (18, [some (.ref w)], [.int (nI 500), .ref w])) rfl ?_
  refine aw_nwa rfl (by decide) (by decide) ?_
  rw [e500]
  refine aw_put rfl hg ((am_psh_ne _ _ _ (by omega)).trans a4) (Nat.le_of_ble_eq_true rfl) rfl rfl ?_
  obtain ⟨b1, b2, b3, b4, b5, b6, b7⟩ := arr (c := cA0 (fun _ => 0)) (fs' := ((am_def 2).set 0 (.ref σ.2.1)).set 1 (.ref σ1.2.1)) a4 (by omega) a7
  generalize am_set (am_psh σ1 (cA0 (fun _ => 0)) 500) w (.inr (2, ((am_def 2).set 0 (.ref σ.2.1)).set 1 (.ref σ1.2.1))) = σ2 at b1 b2 b3 b4 b5 b6 b7 ⊢
  refine aw_run 2 (F' := (27, [some (.ref w)], [.int (nI 500), .ref w])) rfl ?_
  refine aw_nwq rfl (by decide) (by decide) ?_
  rw [e500]
  refine aw_put rfl hg ((am_psh_ne _ _ _ (by omega)).trans b4) (Nat.le_of_ble_eq_true rfl) rfl rfl ?_
  obtain ⟨c1, c2, c3, c4, c5, c6, c7⟩ := arr (c := cA3 (fun _ => none)) (fs' := (((am_def 2).set 0 (.ref σ.2.1)).set 1 (.ref σ1.2.1)).set 2 (.ref σ2.2.1)) b4 (by omega) b7
  generalize am_set (am_psh σ2 (cA3 (fun _ => none)) 500) w (.inr (2, (((am_def 2).set 0 (.ref σ.2.1)).set 1 (.ref σ1.2.1)).set 2 (.ref σ2.2.1))) = σ3 at c1 c2 c3 c4 c5 c6 c7 ⊢
  refine aw_run 2 (F' := (37, [some (.ref w)], [.int (nI 500), .ref w])) rfl ?_
  refine aw_nwa rfl (by decide) (by decide) ?_
  rw [e500]
  refine aw_put rfl hg ((am_psh_ne _ _ _ (by omega)).trans c4) (Nat.le_of_ble_eq_true rfl) rfl rfl ?_
  obtain ⟨d1, d2, d3, d4, d5, d6, d7⟩ := arr (c := cA0 (fun _ => 0)) (fs' := ((((am_def 2).set 0 (.ref σ.2.1)).set 1 (.ref σ1.2.1)).set 2 (.ref σ2.2.1)).set 3 (.ref σ3.2.1)) c4 (by omega) c7
  generalize am_set (am_psh σ3 (cA0 (fun _ => 0)) 500) w (.inr (2, ((((am_def 2).set 0 (.ref σ.2.1)).set 1 (.ref σ1.2.1)).set 2 (.ref σ2.2.1)).set 3 (.ref σ3.2.1))) = σ4 at d1 d2 d3 d4 d5 d6 d7 ⊢
  have n1 : σ1.2.1 = w + 2 := by omega
  have n2 : σ2.2.1 = w + 3 := by omega
  have n3 : σ3.2.1 = w + 4 := by omega
  rw [hn, n1, n2, n3] at d4
  rw [hn] at a3
  rw [n1] at b3
  rw [n2] at c3
  rw [n3] at d3
  refine aw_vret rfl rfl (hQ σ4 (fun a ha => (d1 a ha).trans ((c1 a ha).trans ((b1 a ha).trans (a1 a ha)))) (by omega) (by omega) d7 (fun Z => ⟨⟨by simp, fun _ => none, fun _ => 0, d4, ?_, ?_, fun i v o hi => by simp at hi⟩, fun x hx => (by cases hx), ⟨fun _ => none, ?_⟩, ⟨fun _ => 0, d3⟩⟩))
  · exact (d2 _ (by omega) (by omega)).trans ((c2 _ (by omega) (by omega)).trans ((b2 _ (by omega) (by omega)).trans a3))
  · exact (d2 _ (by omega) (by omega)).trans ((c2 _ (by omega) (by omega)).trans b3)
  · exact (d2 _ (by omega) (by omega)).trans c3
/-- the cells of the reference come between -/
theorem cs_re {σ' : am_H} (hC : CS g b 29 σ S) (hn : σ.2.1 = b + 29) (h1 : ∀ a, a < b + 29 → σ'.1 a = σ.1 a) (hR : 29 ≤ R) (hle : b + R ≤ σ'.2.1) (hw : wf σ') : CS g b R σ' S := by
  obtain ⟨c1, c2, c3, c4, c5, c6, c7, c8, ⟨st, c9, c10⟩, ⟨fs, c11, c12⟩, ⟨fl, c13, c14⟩, c15, ⟨X2, c16⟩, ⟨X3, c17⟩, c18⟩ := hC
  have hz : ∀ a, Zc g b 29 σ.2.1 a → σ'.1 a = σ.1 a := by
    intro a ha
    unfold Zc at ha
    exact h1 a (by omega)
  have hm : ∀ a, Zc g b 29 σ.2.1 a → Zc g b R σ'.2.1 a := by
    intro a ha
    unfold Zc at ha ⊢
    omega
  refine ⟨c1, c2, hR, hle, hw, c6.kept (h1 _ (by omega)), c7, c8.kept (h1 _ (by omega)), ⟨st, (h1 _ (by omega)).trans c9, c10.kept hz hm⟩, ⟨fs, (h1 _ (by omega)).trans c11, fun j hj => ?_⟩, ⟨fl, (h1 _ (by omega)).trans c13, c14⟩, fun j hj => (c15 j hj).kept hz (fun a q1 q2 => h1 a (by omega)) hm, ⟨X2, c16.kept hz (fun a q1 q2 => h1 a (by omega)) hm⟩, ⟨X3, c17.kept hz (fun a q1 q2 => h1 a (by omega)) hm⟩, c18.kept hz hm⟩
  obtain ⟨k1, a, k2, k3⟩ := c12 j hj
  exact ⟨k1, a, k2, k3.kept hz hm⟩
end P58
end
section
/-- the object while its slots are made -/
abbrev cVd (g : Nat × Nat) (k : Nat) : am_C := .inr (1, [.int (nI k), .ref g.2, .long 0, .ref g.2, .int (nI 0), .null, .null, .null])
def kst (g : Nat × Nat) (σ0 σ : am_H) (b i : Nat) : Prop := (∀ a, a < b → σ.1 a = σ0.1 a) ∧ σ.1 b = some (.inr (0, [.ref (b + 1), .int 0, .ref (b + 2), .null, .null, .null, .null, .null])) ∧ σ.1 (b + 1) = some (.inl (1, 2000, .inl (fun _ => 0))) ∧ (∃ fs : Nat → Option Nat, σ.1 (b + 2) = some (.inl (3, 4, .inr (.inr (.inr (.inr fs))))) ∧ ∀ j, j < i → fs j = some (b + 3 + j)) ∧ (∀ j, j < i → σ.1 (b + 3 + j) = some (cVd g 3)) ∧ σ.2.1 = b + 3 + i ∧ σ.2.2 = σ0.2.2 + 2004 + 8 * i ∧ wf σ
section P59
variable {g : Nat × Nat} {d b R : Nat} {σ : am_H} {S : sp_S} {Q : Option Value → am_H → Prop}
theorem c_ini1 {σ0 : am_H} (hg : g.1 ≤ b) (hg2 : g.2 < g.1) (hnb : bya σ0.1 g.2 []) (hQ : ∀ σ' : am_H, kst g σ0 σ' b 4 → AW g (d + 2) 1 (59, [some (.ref b), some (.int (nI 4))], []) σ' Q) : ∀ (n i : Nat) (σ : am_H), i + n = 4 → kst g σ0 σ b i → AW g (d + 2) 1 (23, [some (.ref b), some (.int (nI i))], []) σ Q := by
  intro n
  induction n with
  | zero =>
    intro i σ hi hk
    have : i = 4 := by omega
    subst this
    have hk' := hk
    obtain ⟨k1, k2, k3, ⟨fs, k4, k5⟩, k6, k7, k8, k9⟩ := hk'
    refine aw_run 2 (F' := (25, [some (.ref b), some (.int (nI 4))], [.ref b, .int (nI 4)])) rfl ?_
    refine aw_get rfl k2 rfl ?_
    refine aw_lenq rfl k4 (by decide) ?_
    exact aw_cge rfl (fun _ => hQ σ hk) (fun z => absurd (by decide) z)
  | succ n ih =>
    intro i σ hi hk
    obtain ⟨k1, k2, k3, ⟨fs, k4, k5⟩, k6, k7, k8, k9⟩ := hk
    refine aw_run 2 (F' := (25, [some (.ref b), some (.int (nI i))], [.ref b, .int (nI i)])) rfl ?_
    refine aw_get rfl k2 rfl ?_
    refine aw_lenq rfl k4 (by decide) ?_
    refine aw_cge rfl (fun z => absurd ((nI_leI (a := 4) (by omega) (by omega)).mp z) (by omega)) (fun _ => ?_)
    refine aw_run 1 (F' := (33, [some (.ref b), some (.int (nI i))], [.ref b])) rfl ?_
    refine aw_get rfl k2 rfl ?_
    refine aw_run 1 (F' := (37, [some (.ref b), some (.int (nI i))], [.int (nI i), .ref (b + 2)])) rfl ?_
    refine aw_new rfl ?_
    have hc1 := am_psh_same σ (.inr (1, am_def 1)) (am_nf 1)
    have hnb1 : bya (am_psh σ (.inr (1, am_def 1)) (am_nf 1)).1 g.2 [] := hnb.kept ((am_psh_ne _ _ _ (by omega)).trans (k1 _ (by omega)))
    refine aw_run 2 (F' := (42, [some (.ref b), some (.int (nI i))], [.int (nI 3), .ref σ.2.1, .ref σ.2.1, .int (nI i), .ref (b + 2)])) rfl ?_
    refine aw_sta rfl ?_
    refine aw_run 1 (F' := (46, [some (.ref b), some (.int (nI i))], [.long 0, .ref g.2, .int (nI 3), .ref σ.2.1, .ref σ.2.1, .int (nI i), .ref (b + 2)])) rfl ?_
    refine aw_sta rfl ?_
    refine aw_i [.ref σ.2.1, .int (nI 3), .ref g.2, .long 0, .ref g.2] [.ref σ.2.1, .int (nI i), .ref (b + 2)] rfl (by decide) rfl rfl rfl (Nat.le_of_ble_eq_true rfl) (Nat.le_of_ble_eq_true rfl) ?_
    refine c_mk1 (d := d) (by omega) hg2 hc1 hnb1 ?_
    rw [am_set_psh]
    have e0 := am_psh_same σ (cVd g 3) (am_nf 1)
    have e1 : ∀ a, a < σ.2.1 → (am_psh σ (cVd g 3) (am_nf 1)).1 a = σ.1 a := fun a ha => am_psh_ne _ _ _ (by omega)
    have e2 : (am_psh σ (cVd g 3) (am_nf 1)).2.1 = σ.2.1 + 1 := rfl
    have e3 : (am_psh σ (cVd g 3) (am_nf 1)).2.2 = σ.2.2 + 8 := rfl
    have e4 : wf (am_psh σ (cVd g 3) (am_nf 1)) := k9.psh
    show AW g (d + 2) 1 (52, [some (.ref b), some (.int (nI i))], [.ref σ.2.1, .int (nI i), .ref (b + 2)]) (am_psh σ (cVd g 3) (am_nf 1)) Q
    generalize am_psh σ (cVd g 3) (am_nf 1) = σ1 at e0 e1 e2 e3 e4 ⊢
    have k4' := (e1 (b + 2) (by omega)).trans k4
    refine aw_aast rfl (by omega) k4' rfl e0 (vp_in_nI (by omega) (by omega)) ?_
    rw [nI_clamp (by omega)]
    refine aw_run 2 (F' := (23, [some (.ref b), some (.int (nI i + 1))], [])) rfl ?_
    rw [nI_1]
    refine ih (i + 1) _ (by omega) ⟨fun a ha => (am_set_ne _ _ (by omega)).trans ((e1 a (by omega)).trans (k1 a ha)), (am_set_ne _ _ (by omega)).trans ((e1 _ (by omega)).trans k2), (am_set_ne _ _ (by omega)).trans ((e1 _ (by omega)).trans k3), ⟨_, am_set_same _ _ _, fun j hj => ?_⟩, fun j hj => (am_set_ne _ _ (by omega)).trans ?_, ?_, ?_, e4.set k4'⟩
    · by_cases q : j = i
      · rw [q, va_up_s, k7]
      · rw [va_up_n q]
        exact k5 j (by omega)
    · by_cases q : j = i
      · rw [q, ← k7]
        exact e0
      · exact (e1 _ (by omega)).trans (k6 j (by omega))
    · show σ1.2.1 = _
      omega
    · show σ1.2.2 = _
      omega
end P59
end
section
/-- the object while its lists are made -/
def kls (σ0 σ : am_H) (b i : Nat) : Prop := (∀ a, a < b + 7 → a ≠ b → σ.1 a = σ0.1 a) ∧ σ.1 b = some (.inr (0, [.ref (b + 1), .int 0, .ref (b + 2), .ref (b + 7), .null, .null, .null, .null])) ∧ (∃ fl : Nat → Option Nat, σ.1 (b + 7) = some (.inl (4, 2, .inr (.inr (.inr (.inr fl))))) ∧ ∀ j, j < i → fl j = some (b + 8 + 5 * j)) ∧ (∀ j, j < i → ∀ Z, lsx Z σ.1 (b + 8 + 5 * j) []) ∧ σ.2.1 = b + 8 + 5 * i ∧ σ.2.2 = σ0.2.2 + 2 + 2006 * i ∧ wf σ
theorem lsx_nil_kept {h h' : Nat → Option am_C} {w : Nat} (q : ∀ Z, lsx Z h w []) (ew : ∀ a, w ≤ a → a ≤ w + 4 → h' a = h a) : ∀ Z, lsx Z h' w [] := fun Z => (q (fun _ => False)).kept (fun _ z => z.elim) ew (fun _ z => z.elim)
section P60
variable {g : Nat × Nat} {d b R : Nat} {σ : am_H} {S : sp_S} {Q : Option Value → am_H → Prop}
theorem c_ini2 {σ0 : am_H} (hg : g.1 ≤ b) (hQ : ∀ σ' : am_H, kls σ0 σ' b 2 → AW g (d + 2) 1 (97, [some (.ref b), some (.int (nI 2))], []) σ' Q) : ∀ (n i : Nat) (σ : am_H), i + n = 2 → kls σ0 σ b i → AW g (d + 2) 1 (69, [some (.ref b), some (.int (nI i))], []) σ Q := by
  intro n
  induction n with
  | zero =>
    intro i σ hi hk
    have : i = 2 := by omega
    subst this
    have hk' := hk
    obtain ⟨k1, k2, ⟨fl, k4, k5⟩, k6, k7, k8, k9⟩ := hk'
    refine aw_run 2 (F' := (71, [some (.ref b), some (.int (nI 2))], [.ref b, .int (nI 2)])) rfl ?_
    refine aw_get rfl k2 rfl ?_
    refine aw_lenq rfl k4 (by decide) ?_
    exact aw_cge rfl (fun _ => hQ σ hk) (fun z => absurd (by decide) z)
  | succ n ih =>
    intro i σ hi hk
    obtain ⟨k1, k2, ⟨fl, k4, k5⟩, k6, k7, k8, k9⟩ := hk
    refine aw_run 2 (F' := (71, [some (.ref b), some (.int (nI i))], [.ref b, .int (nI i)])) rfl ?_
    refine aw_get rfl k2 rfl ?_
    refine aw_lenq rfl k4 (by decide) ?_
    refine aw_cge rfl (fun z => absurd ((nI_leI (a := 2) (by omega) (by omega)).mp z) (by omega)) (fun _ => ?_)
    refine aw_run 1 (F' := (79, [some (.ref b), some (.int (nI i))], [.ref b])) rfl ?_
    refine aw_get rfl k2 rfl ?_
    refine aw_run 1 (F' := (83, [some (.ref b), some (.int (nI i))], [.int (nI i), .ref (b + 7)])) rfl ?_
    refine aw_new rfl ?_
    have hc1 := am_psh_same σ (.inr (2, am_def 2)) (am_nf 2)
    have e1 : ∀ a, a < σ.2.1 → (am_psh σ (.inr (2, am_def 2)) (am_nf 2)).1 a = σ.1 a := fun a ha => am_psh_ne _ _ _ (by omega)
    have e2 : (am_psh σ (.inr (2, am_def 2)) (am_nf 2)).2.1 = σ.2.1 + 1 := rfl
    have e3 : (am_psh σ (.inr (2, am_def 2)) (am_nf 2)).2.2 = σ.2.2 + 6 := rfl
    have e4 : wf (am_psh σ (.inr (2, am_def 2)) (am_nf 2)) := k9.psh
    generalize am_psh σ (.inr (2, am_def 2)) (am_nf 2) = σ1 at hc1 e1 e2 e3 e4 ⊢
    rw [k7] at hc1 ⊢
    refine aw_run 1 (F' := (87, [some (.ref b), some (.int (nI i))], [.ref (b + 8 + 5 * i), .ref (b + 8 + 5 * i), .int (nI i), .ref (b + 7)])) rfl ?_
    refine aw_i [.ref (b + 8 + 5 * i)] [.ref (b + 8 + 5 * i), .int (nI i), .ref (b + 7)] rfl (by decide) rfl rfl rfl (Nat.le_of_ble_eq_true rfl) (Nat.le_of_ble_eq_true rfl) ?_
    refine c_lnew (d := d) (by omega) hc1 (by omega) e4 (fun σ2 q1 q2 q3 q4 q5 => ?_)
    have kk : ∀ a, a < b + 8 + 5 * i → σ2.1 a = σ.1 a := fun a ha => (q1 a ha).trans (e1 a (by omega))
    have k4' := (kk (b + 7) (by omega)).trans k4
    obtain ⟨⟨-, fv, fo, hwc, -⟩, -⟩ := q5 (fun _ => False)
    refine aw_aast rfl (by omega) k4' rfl hwc (vp_in_nI (by omega) (by omega)) ?_
    rw [nI_clamp (by omega)]
    refine aw_run 2 (F' := (69, [some (.ref b), some (.int (nI i + 1))], [])) rfl ?_
    rw [nI_1]
    refine ih (i + 1) _ (by omega) ⟨fun a ha hb => (am_set_ne _ _ (by omega)).trans ((kk a (by omega)).trans (k1 a ha hb)), (am_set_ne _ _ (by omega)).trans ((kk _ (by omega)).trans k2), ⟨_, am_set_same _ _ _, fun j hj => ?_⟩, fun j hj => ?_, ?_, ?_, q4.set k4'⟩
    · by_cases q : j = i
      · rw [q, va_up_s]
      · rw [va_up_n q]
        exact k5 j (by omega)
    · by_cases q : j = i
      · rw [q]
        exact lsx_nil_kept q5 (fun a p1 p2 => am_set_ne _ _ (by omega))
      · exact lsx_nil_kept (k6 j (by omega)) (fun a p1 p2 => (am_set_ne _ _ (by omega)).trans (kk a (by omega)))
    · show σ2.2.1 = _
      omega
    · have h1 := q3
      rw [e3, k8] at h1
      refine Eq.trans (b := σ2.2.2) rfl (h1.trans ?_)
      generalize σ0.2.2 = z
      clear h1 q3 k8 e3
      rw [Nat.mul_add]
      omega
end P60
end
section
def sp_S0 : sp_S := ((fun _ => 0), 0, (fun _ => .leaf), (fun _ => []), [])
section P61
variable {g : Nat × Nat} {d b R : Nat} {σ : am_H} {S : sp_S} {Q : Option Value → am_H → Prop}
/-- a list more, put into a field -/
theorem c_ini3 {k : Nat} {σ0 : am_H} (hg : g.1 ≤ b) (hb : b < σ.2.1) (hwf : wf σ) {fs : List Value} (hk : k = σ.2.1) (hcell : σ.1 b = some (.inr (0, fs))) (hQ : ∀ σ' : am_H, (∀ a, a < σ.2.1 → σ'.1 a = σ.1 a) → (∀ Z, lsx Z σ'.1 k []) → σ'.2.1 = k + 5 → σ'.2.2 = σ.2.2 + 2006 → wf σ' → AW g (d + 2) 1 (105, [some (.ref b), some (.int (nI 2))], [.ref k, .ref b]) σ' Q) : AW g (d + 2) 1 (98, [some (.ref b), some (.int (nI 2))], [.ref b]) σ Q := by
  subst hk
  refine aw_new rfl ?_
  have hc1 := am_psh_same σ (.inr (2, am_def 2)) (am_nf 2)
  have e1 : ∀ a, a < σ.2.1 → (am_psh σ (.inr (2, am_def 2)) (am_nf 2)).1 a = σ.1 a := fun a ha => am_psh_ne _ _ _ (by omega)
  have e2 : (am_psh σ (.inr (2, am_def 2)) (am_nf 2)).2.1 = σ.2.1 + 1 := rfl
  have e3 : (am_psh σ (.inr (2, am_def 2)) (am_nf 2)).2.2 = σ.2.2 + 6 := rfl
  have e4 : wf (am_psh σ (.inr (2, am_def 2)) (am_nf 2)) := hwf.psh
  generalize am_psh σ (.inr (2, am_def 2)) (am_nf 2) = σ1 at hc1 e1 e2 e3 e4 ⊢
  refine aw_run 1 (F' := (102, [some (.ref b), some (.int (nI 2))], [.ref σ.2.1, .ref σ.2.1, .ref b])) rfl ?_
  refine aw_i [.ref σ.2.1] [.ref σ.2.1, .ref b] rfl (by decide) rfl rfl rfl (Nat.le_of_ble_eq_true rfl) (Nat.le_of_ble_eq_true rfl) ?_
  refine c_lnew (d := d) (by omega) hc1 (by omega) e4 (fun σ2 q1 q2 q3 q4 q5 => ?_)
  exact hQ σ2 (fun a ha => (q1 a ha).trans (e1 a ha)) q5 q2 (by rw [q3, e3]) q4
end P61
end
section
section P62
variable {g : Nat × Nat} {d b R : Nat} {σ : am_H} {S : sp_S} {Q : Option Value → am_H → Prop}
/-- the constructor, up to its two lists -/
theorem c_iniA (hg : g.1 ≤ b) (hg2 : g.2 < g.1) (hnb : bya σ.1 g.2 []) (ho : σ.1 b = some (.inr (0, am_def 0))) (hn : σ.2.1 = b + 1) (hwf : wf σ) (hQ : ∀ σ1 σ2 : am_H, kst g σ σ1 b 4 → kls σ1 σ2 b 2 → AW g (d + 2) 1 (97, [some (.ref b), some (.int (nI 2))], []) σ2 Q) : AW g (d + 2) 1 (0, [some (.ref b), none], []) σ Q := by
  refine aw_run 1 (F' := (1, [some (.ref b), none], [.ref b])) rfl ?_
  refine aw_obj rfl (Nat.le_of_ble_eq_true rfl) (by omega) ?_
  refine aw_run 2 (F' := (8, [some (.ref b), none], [.int (nI 2000), .ref b])) rfl ?_
  refine aw_nwa rfl (by decide) (by decide) ?_
  rw [show (nI 2000).toNatClampNeg = 2000 by decide]
  have a0 := am_psh_same σ (.inl (1, 2000, .inl (fun _ => (0 : Int32)))) 2000
  have a1 : ∀ a, a < σ.2.1 → (am_psh σ (.inl (1, 2000, .inl (fun _ => (0 : Int32)))) 2000).1 a = σ.1 a := fun a ha => am_psh_ne _ _ _ (by omega)
  have a2 : (am_psh σ (.inl (1, 2000, .inl (fun _ => (0 : Int32)))) 2000).2.1 = σ.2.1 + 1 := rfl
  have a3 : (am_psh σ (.inl (1, 2000, .inl (fun _ => (0 : Int32)))) 2000).2.2 = σ.2.2 + 2000 := rfl
  have a4 : wf (am_psh σ (.inl (1, 2000, .inl (fun _ => (0 : Int32)))) 2000) := hwf.psh
  show AW g (d + 2) 1 (10, [some (.ref b), none], [.ref σ.2.1, .ref b]) (am_psh σ (.inl (1, 2000, .inl (fun _ => (0 : Int32)))) 2000) Q
  generalize am_psh σ (.inl (1, 2000, .inl (fun _ => (0 : Int32)))) 2000 = σ1 at a0 a1 a2 a3 a4 ⊢
  rw [hn] at a0 ⊢
  have ho1 := (a1 b (by omega)).trans ho
  refine aw_put rfl hg ho1 (Nat.le_of_ble_eq_true rfl) rfl rfl ?_
  have b0 := am_set_same σ1 b (.inr (0, [.ref (b + 1), .int 0, .null, .null, .null, .null, .null, .null]))
  have b1 : ∀ a, a ≠ b → (am_set σ1 b (.inr (0, [.ref (b + 1), .int 0, .null, .null, .null, .null, .null, .null]))).1 a = σ1.1 a := fun a ha => am_set_ne _ _ ha
  have b2 : (am_set σ1 b (.inr (0, [.ref (b + 1), .int 0, .null, .null, .null, .null, .null, .null]))).2 = σ1.2 := rfl
  have b4 : wf (am_set σ1 b (.inr (0, [.ref (b + 1), .int 0, .null, .null, .null, .null, .null, .null]))) := a4.set ho1
  show AW g (d + 2) 1 (13, [some (.ref b), none], []) (am_set σ1 b (.inr (0, [.ref (b + 1), .int 0, .null, .null, .null, .null, .null, .null]))) Q
  generalize am_set σ1 b (.inr (0, [.ref (b + 1), .int 0, .null, .null, .null, .null, .null, .null])) = σ2 at b0 b1 b2 b4 ⊢
  have b21 : σ2.2.1 = b + 2 := by rw [b2]; omega
  have b22 : σ2.2.2 = σ.2.2 + 2000 := by rw [b2]; omega
  refine aw_run 2 (F' := (15, [some (.ref b), none], [.int (nI 4), .ref b])) rfl ?_
  refine aw_nwq rfl (by decide) (by decide) ?_
  rw [show (nI 4).toNatClampNeg = 4 by decide]
  have c0 := am_psh_same σ2 (.inl (3, 4, .inr (.inr (.inr (.inr (fun _ => none)))))) 4
  have c1 : ∀ a, a < σ2.2.1 → (am_psh σ2 (.inl (3, 4, .inr (.inr (.inr (.inr (fun _ => none)))))) 4).1 a = σ2.1 a := fun a ha => am_psh_ne _ _ _ (by omega)
  have c2 : (am_psh σ2 (.inl (3, 4, .inr (.inr (.inr (.inr (fun _ => none)))))) 4).2.1 = σ2.2.1 + 1 := rfl
  have c3 : (am_psh σ2 (.inl (3, 4, .inr (.inr (.inr (.inr (fun _ => none)))))) 4).2.2 = σ2.2.2 + 4 := rfl
  have c4 : wf (am_psh σ2 (.inl (3, 4, .inr (.inr (.inr (.inr (fun _ => none)))))) 4) := b4.psh
  show AW g (d + 2) 1 (18, [some (.ref b), none], [.ref σ2.2.1, .ref b]) (am_psh σ2 (.inl (3, 4, .inr (.inr (.inr (.inr (fun _ => none)))))) 4) Q
  generalize am_psh σ2 (.inl (3, 4, .inr (.inr (.inr (.inr (fun _ => none)))))) 4 = σ3 at c0 c1 c2 c3 c4 ⊢
  rw [b21] at c0 ⊢
  have ho3 := (c1 b (by omega)).trans b0
  refine aw_put rfl hg ho3 (Nat.le_of_ble_eq_true rfl) rfl rfl ?_
  refine aw_run 2 (F' := (23, [some (.ref b), some (.int (nI 0))], [])) rfl ?_
  refine c_ini1 (σ0 := σ) hg hg2 hnb (fun σ5 hk => ?_) 4 0 _ rfl ⟨fun a ha => (am_set_ne _ _ (by omega)).trans ((c1 a (by omega)).trans ((b1 a (by omega)).trans (a1 a (by omega)))), am_set_same _ _ _, (am_set_ne _ _ (by omega)).trans ((c1 _ (by omega)).trans ((b1 _ (by omega)).trans a0)), ⟨_, (am_set_ne _ _ (by omega)).trans c0, fun j hj => by omega⟩, fun j hj => by omega, ?_, ?_, c4.set ho3⟩
  rotate_left
  · exact Eq.trans (b := σ3.2.1) rfl (by omega)
  · exact Eq.trans (b := σ3.2.2) rfl (by omega)
  have hk' := hk
  obtain ⟨k1, k2, k3, k4, k6, k7, k8, k9⟩ := hk'
  refine aw_run 2 (F' := (61, [some (.ref b), some (.int (nI 4))], [.int (nI 2), .ref b])) rfl ?_
  refine aw_nwq rfl (by decide) (by decide) ?_
  rw [show (nI 2).toNatClampNeg = 2 by decide]
  have d0 := am_psh_same σ5 (.inl (4, 2, .inr (.inr (.inr (.inr (fun _ => none)))))) 2
  have d1 : ∀ a, a < σ5.2.1 → (am_psh σ5 (.inl (4, 2, .inr (.inr (.inr (.inr (fun _ => none)))))) 2).1 a = σ5.1 a := fun a ha => am_psh_ne _ _ _ (by omega)
  have d2 : (am_psh σ5 (.inl (4, 2, .inr (.inr (.inr (.inr (fun _ => none)))))) 2).2.1 = σ5.2.1 + 1 := rfl
  have d3 : (am_psh σ5 (.inl (4, 2, .inr (.inr (.inr (.inr (fun _ => none)))))) 2).2.2 = σ5.2.2 + 2 := rfl
  have d4 : wf (am_psh σ5 (.inl (4, 2, .inr (.inr (.inr (.inr (fun _ => none)))))) 2) := k9.psh
  show AW g (d + 2) 1 (64, [some (.ref b), some (.int (nI 4))], [.ref σ5.2.1, .ref b]) (am_psh σ5 (.inl (4, 2, .inr (.inr (.inr (.inr (fun _ => none)))))) 2) Q
  generalize am_psh σ5 (.inl (4, 2, .inr (.inr (.inr (.inr (fun _ => none)))))) 2 = σ6 at d0 d1 d2 d3 d4 ⊢
  rw [k7] at d0 ⊢
  have ho6 := (d1 b (by omega)).trans k2
  refine aw_put rfl hg ho6 (Nat.le_of_ble_eq_true rfl) rfl rfl ?_
  refine aw_run 2 (F' := (69, [some (.ref b), some (.int (nI 0))], [])) rfl ?_
  refine c_ini2 (σ0 := σ5) hg (fun σ7 h7 => hQ σ5 σ7 hk h7) 2 0 _ rfl ⟨fun a ha hb => (am_set_ne _ _ hb).trans (d1 a (by omega)), am_set_same _ _ _, ⟨_, (am_set_ne _ _ (by omega)).trans d0, fun j hj => by omega⟩, fun j hj => by omega, ?_, ?_, d4.set ho6⟩
  · exact Eq.trans (b := σ6.2.1) rfl (by omega)
  · exact Eq.trans (b := σ6.2.2) rfl (by omega)
end P62
end
section
section P63
variable {g : Nat × Nat} {d b R : Nat} {σ : am_H} {S : sp_S} {Q : Option Value → am_H → Prop}
/-- a list more, put into a field -/
theorem c_ini4 {k : Nat} {σ0 : am_H} (hg : g.1 ≤ b) (hb : b < σ.2.1) (hwf : wf σ) {fs : List Value} (hk : k = σ.2.1) (hcell : σ.1 b = some (.inr (0, fs))) (hQ : ∀ σ' : am_H, (∀ a, a < σ.2.1 → σ'.1 a = σ.1 a) → (∀ Z, lsx Z σ'.1 k []) → σ'.2.1 = k + 5 → σ'.2.2 = σ.2.2 + 2006 → wf σ' → AW g (d + 2) 1 (116, [some (.ref b), some (.int (nI 2))], [.ref k, .ref b]) σ' Q) : AW g (d + 2) 1 (109, [some (.ref b), some (.int (nI 2))], [.ref b]) σ Q := by
  subst hk
  refine aw_new rfl ?_
  have hc1 := am_psh_same σ (.inr (2, am_def 2)) (am_nf 2)
  have e1 : ∀ a, a < σ.2.1 → (am_psh σ (.inr (2, am_def 2)) (am_nf 2)).1 a = σ.1 a := fun a ha => am_psh_ne _ _ _ (by omega)
  have e2 : (am_psh σ (.inr (2, am_def 2)) (am_nf 2)).2.1 = σ.2.1 + 1 := rfl
  have e3 : (am_psh σ (.inr (2, am_def 2)) (am_nf 2)).2.2 = σ.2.2 + 6 := rfl
  have e4 : wf (am_psh σ (.inr (2, am_def 2)) (am_nf 2)) := hwf.psh
  generalize am_psh σ (.inr (2, am_def 2)) (am_nf 2) = σ1 at hc1 e1 e2 e3 e4 ⊢
  refine aw_run 1 (F' := (113, [some (.ref b), some (.int (nI 2))], [.ref σ.2.1, .ref σ.2.1, .ref b])) rfl ?_
  refine aw_i [.ref σ.2.1] [.ref σ.2.1, .ref b] rfl (by decide) rfl rfl rfl (Nat.le_of_ble_eq_true rfl) (Nat.le_of_ble_eq_true rfl) ?_
  refine c_lnew (d := d) (by omega) hc1 (by omega) e4 (fun σ2 q1 q2 q3 q4 q5 => ?_)
  exact hQ σ2 (fun a ha => (q1 a ha).trans (e1 a ha)) q5 q2 (by rw [q3, e3]) q4
theorem vlz_new {Z : Nat → Prop} {h : Nat → Option am_C} {x k : Nat} (hk : kd k) (hx : h x = some (cVd g k)) (hnb : bya h g.2 []) (zx : Z x) (zg : Z g.2) : vlz Z h x ((k, [], 0, []), .leaf) :=
  ⟨zx, none, none, none, ⟨hk, (by show 0 < 65536; omega), g.2, g.2, 0, zg, zg, hx, rfl, hnb, hnb⟩, rfl⟩
/-- the constructor -/
theorem c_init (hg : g.1 ≤ b) (hg2 : g.2 < g.1) (hnb : bya σ.1 g.2 []) (ho : σ.1 b = some (.inr (0, am_def 0))) (hn : σ.2.1 = b + 1) (hwf : wf σ) (hQ : ∀ σ' : am_H, (∀ a, a < b → σ'.1 a = σ.1 a) → CS g b 29 σ' sp_S0 → σ'.2.1 = b + 29 → σ'.2.2 = σ.2.2 + 10070 → Q none σ') : AW g (d + 2) 1 (0, [some (.ref b), none], []) σ Q := by
  refine c_iniA hg hg2 hnb ho hn hwf (fun σ1 σ2 hk hl => ?_)
  obtain ⟨k1, k2, k3, ⟨fs, k4, k5⟩, k6, k7, k8, k9⟩ := hk
  obtain ⟨l1, l2, ⟨fl, l3, l4⟩, l5, l6, l7, l8⟩ := hl
  refine aw_run 1 (F' := (98, [some (.ref b), some (.int (nI 2))], [.ref b])) rfl ?_
  refine c_ini3 (σ0 := σ) (k := b + 18) hg (by omega) l8 (by omega) l2 (fun σ3 m1 m2 m3 m4 m5 => ?_)
  have ho3 := (m1 b (by omega)).trans l2
  refine aw_put rfl hg ho3 (Nat.le_of_ble_eq_true rfl) rfl rfl ?_
  have w4 := m5.set (c := .inr (0, [.ref (b + 1), .int 0, .ref (b + 2), .ref (b + 7), .ref (b + 18), .null, .null, .null])) ho3
  have o4 := am_set_same σ3 b (.inr (0, [.ref (b + 1), .int 0, .ref (b + 2), .ref (b + 7), .ref (b + 18), .null, .null, .null]))
  have e4 : ∀ a, a ≠ b → (am_set σ3 b (.inr (0, [.ref (b + 1), .int 0, .ref (b + 2), .ref (b + 7), .ref (b + 18), .null, .null, .null]))).1 a = σ3.1 a := fun a ha => am_set_ne _ _ ha
  have n4 : (am_set σ3 b (.inr (0, [.ref (b + 1), .int 0, .ref (b + 2), .ref (b + 7), .ref (b + 18), .null, .null, .null]))).2 = σ3.2 := rfl
  show AW g (d + 2) 1 (108, [some (.ref b), some (.int (nI 2))], []) (am_set σ3 b (.inr (0, [.ref (b + 1), .int 0, .ref (b + 2), .ref (b + 7), .ref (b + 18), .null, .null, .null]))) Q
  generalize am_set σ3 b (.inr (0, [.ref (b + 1), .int 0, .ref (b + 2), .ref (b + 7), .ref (b + 18), .null, .null, .null])) = σ4 at w4 o4 e4 n4 ⊢
  have n41 : σ4.2.1 = b + 23 := by rw [n4]; omega
  have n42 : σ4.2.2 = σ3.2.2 := by rw [n4]
  refine aw_run 1 (F' := (109, [some (.ref b), some (.int (nI 2))], [.ref b])) rfl ?_
  refine c_ini4 (σ0 := σ) (k := b + 23) hg (by omega) w4 (by omega) o4 (fun σ5 p1 p2 p3 p4 p5 => ?_)
  have ho5 := (p1 b (by omega)).trans o4
  refine aw_put rfl hg ho5 (Nat.le_of_ble_eq_true rfl) rfl rfl ?_
  have w6 := p5.set (c := .inr (0, [.ref (b + 1), .int 0, .ref (b + 2), .ref (b + 7), .ref (b + 18), .ref (b + 23), .null, .null])) ho5
  have o6 := am_set_same σ5 b (.inr (0, [.ref (b + 1), .int 0, .ref (b + 2), .ref (b + 7), .ref (b + 18), .ref (b + 23), .null, .null]))
  have e6 : ∀ a, a ≠ b → (am_set σ5 b (.inr (0, [.ref (b + 1), .int 0, .ref (b + 2), .ref (b + 7), .ref (b + 18), .ref (b + 23), .null, .null]))).1 a = σ5.1 a := fun a ha => am_set_ne _ _ ha
  have n6 : (am_set σ5 b (.inr (0, [.ref (b + 1), .int 0, .ref (b + 2), .ref (b + 7), .ref (b + 18), .ref (b + 23), .null, .null]))).2 = σ5.2 := rfl
  show AW g (d + 2) 1 (119, [some (.ref b), some (.int (nI 2))], []) (am_set σ5 b (.inr (0, [.ref (b + 1), .int 0, .ref (b + 2), .ref (b + 7), .ref (b + 18), .ref (b + 23), .null, .null]))) Q
  generalize am_set σ5 b (.inr (0, [.ref (b + 1), .int 0, .ref (b + 2), .ref (b + 7), .ref (b + 18), .ref (b + 23), .null, .null])) = σ6 at w6 o6 e6 n6 ⊢
  have n61 : σ6.2.1 = b + 28 := by rw [n6]; omega
  have n62 : σ6.2.2 = σ5.2.2 := by rw [n6]
  have up6 : ∀ a, a < b + 18 → a ≠ b → σ6.1 a = σ2.1 a := fun a h1 h2 => (e6 a h2).trans ((p1 a (by omega)).trans ((e4 a h2).trans (m1 a (by omega))))
  have nb6 : bya σ6.1 g.2 [] := hnb.kept ((up6 _ (by omega) (by omega)).trans ((l1 _ (by omega) (by omega)).trans (k1 _ (by omega))))
  refine aw_run 1 (F' := (120, [some (.ref b), some (.int (nI 2))], [.ref b])) rfl ?_
  refine aw_new rfl ?_
  have hc1 := am_psh_same σ6 (.inr (1, am_def 1)) (am_nf 1)
  have hnb1 : bya (am_psh σ6 (.inr (1, am_def 1)) (am_nf 1)).1 g.2 [] := nb6.kept (am_psh_ne _ _ _ (by omega))
  refine aw_run 2 (F' := (125, [some (.ref b), some (.int (nI 2))], [.int (nI 0), .ref σ6.2.1, .ref σ6.2.1, .ref b])) rfl ?_
  refine aw_sta rfl ?_
  refine aw_run 1 (F' := (129, [some (.ref b), some (.int (nI 2))], [.long 0, .ref g.2, .int (nI 0), .ref σ6.2.1, .ref σ6.2.1, .ref b])) rfl ?_
  refine aw_sta rfl ?_
  refine aw_i [.ref σ6.2.1, .int (nI 0), .ref g.2, .long 0, .ref g.2] [.ref σ6.2.1, .ref b] rfl (by decide) rfl rfl rfl (Nat.le_of_ble_eq_true rfl) (Nat.le_of_ble_eq_true rfl) ?_
  refine c_mk1 (d := d) (by omega) hg2 hc1 hnb1 ?_
  rw [am_set_psh]
  have q0 := am_psh_same σ6 (cVd g 0) (am_nf 1)
  have q1 : ∀ a, a < σ6.2.1 → (am_psh σ6 (cVd g 0) (am_nf 1)).1 a = σ6.1 a := fun a ha => am_psh_ne _ _ _ (by omega)
  have q2 : (am_psh σ6 (cVd g 0) (am_nf 1)).2.1 = σ6.2.1 + 1 := rfl
  have q3 : (am_psh σ6 (cVd g 0) (am_nf 1)).2.2 = σ6.2.2 + 8 := rfl
  have q4 : wf (am_psh σ6 (cVd g 0) (am_nf 1)) := w6.psh
  show AW g (d + 2) 1 (135, [some (.ref b), some (.int (nI 2))], [.ref σ6.2.1, .ref b]) (am_psh σ6 (cVd g 0) (am_nf 1)) Q
  generalize am_psh σ6 (cVd g 0) (am_nf 1) = σ7 at q0 q1 q2 q3 q4 ⊢
  rw [n61] at q0 ⊢
  have ho7 := (q1 b (by omega)).trans o6
  refine aw_put rfl hg ho7 (Nat.le_of_ble_eq_true rfl) rfl rfl ?_
  have w8 := q4.set (c := .inr (0, [.ref (b + 1), .int 0, .ref (b + 2), .ref (b + 7), .ref (b + 18), .ref (b + 23), .ref (b + 28), .null])) ho7
  have o8 := am_set_same σ7 b (.inr (0, [.ref (b + 1), .int 0, .ref (b + 2), .ref (b + 7), .ref (b + 18), .ref (b + 23), .ref (b + 28), .null]))
  have e8 : ∀ a, a ≠ b → (am_set σ7 b (.inr (0, [.ref (b + 1), .int 0, .ref (b + 2), .ref (b + 7), .ref (b + 18), .ref (b + 23), .ref (b + 28), .null]))).1 a = σ7.1 a := fun a ha => am_set_ne _ _ ha
  have n8 : (am_set σ7 b (.inr (0, [.ref (b + 1), .int 0, .ref (b + 2), .ref (b + 7), .ref (b + 18), .ref (b + 23), .ref (b + 28), .null]))).2 = σ7.2 := rfl
  show AW g (d + 2) 1 (138, [some (.ref b), some (.int (nI 2))], []) (am_set σ7 b (.inr (0, [.ref (b + 1), .int 0, .ref (b + 2), .ref (b + 7), .ref (b + 18), .ref (b + 23), .ref (b + 28), .null]))) Q
  generalize am_set σ7 b (.inr (0, [.ref (b + 1), .int 0, .ref (b + 2), .ref (b + 7), .ref (b + 18), .ref (b + 23), .ref (b + 28), .null])) = σ8 at w8 o8 e8 n8 ⊢
  have n81 : σ8.2.1 = b + 29 := by rw [n8]; omega
  have n82 : σ8.2.2 = σ.2.2 + 10070 := by rw [n8]; omega
  have up8 : ∀ a, a < b + 18 → a ≠ b → σ8.1 a = σ2.1 a := fun a h1 h2 => (e8 a h2).trans ((q1 a (by omega)).trans (up6 a h1 h2))
  have up1 : ∀ a, a < b + 7 → a ≠ b → σ8.1 a = σ1.1 a := fun a h1 h2 => (up8 a (by omega) h2).trans (l1 a h1 h2)
  have nb8 : bya σ8.1 g.2 [] := hnb.kept ((up1 _ (by omega) (by omega)).trans (k1 _ (by omega)))
  have m28 : σ8.1 (b + 28) = some (cVd g 0) := (e8 _ (by omega)).trans q0
  refine aw_vret rfl rfl (hQ σ8 (fun a ha => (up1 a (by omega) (by omega)).trans (k1 a ha)) ⟨hg, hg2, Nat.le_refl _, by omega, w8, nb8, by show 0 ≤ 2000; omega, ⟨by omega, _, (up1 _ (by omega) (by omega)).trans k3, fun i hi => ⟨by show 0 < 256; omega, by show (0 : Int32) = sb_b 0; decide⟩⟩, ⟨none, o8, rfl⟩, ⟨fs, (up1 _ (by omega) (by omega)).trans k4, fun i hi => ⟨Nat.zero_le _, _, k5 i hi, vlz_new (by unfold kd; omega) ((up1 _ (by omega) (by omega)).trans (k6 i hi)) nb8 (by unfold Zc; omega) (Or.inl rfl)⟩⟩, ⟨fl, (up8 _ (by omega) (by omega)).trans l3, l4⟩, fun i hi => lsx_nil_kept (l5 i hi) (fun a h1 h2 => up8 a (by omega) (by omega)) _, ⟨[], lsx_nil_kept m2 (fun a h1 h2 => (e8 a (by omega)).trans ((q1 a (by omega)).trans ((e6 a (by omega)).trans ((p1 a (by omega)).trans (e4 a (by omega)))))) _⟩, ⟨[], lsx_nil_kept p2 (fun a h1 h2 => (e8 a (by omega)).trans ((q1 a (by omega)).trans (e6 a (by omega)))) _⟩, vlz_new (by unfold kd; omega) m28 nb8 (by unfold Zc; omega) (Or.inl rfl)⟩ n81 n82)
end P63
end
