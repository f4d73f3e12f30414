section
-- ===== PART A: goes FIRST, ahead of the names: the tables' words, and 'selects' of the private methods out of them =====
/-- a private method of a class that the tables say can be made, by its rows of tables_1 -/
def lw_okq (q : MethodName × Nat) : Prop := (q.1.cls ≠ "java/lang/invoke/MethodHandle" ∧ q.1.cls ≠ "java/lang/invoke/VarHandle") ∧ Cond.instantiable q.1.cls q.2 ∈ tables_1 ∧ Cond.privateMethod q.1 ∈ tables_1 ∧ Cond.instanceMethod q.1 ∈ tables_1
theorem lw_p0 : lw_okq (⟨"SheetRefs", "refused", "(I)I"⟩, 9) := ⟨⟨by decide +kernel, by decide +kernel⟩, List.mem_of_getElem? (i := 15) (by decide +kernel), List.mem_of_getElem? (i := 177) (by decide +kernel), List.mem_of_getElem? (i := 178) (by decide +kernel)⟩
theorem lw_p1 : lw_okq (⟨"SheetRefs$Reader", "readTerm", "()I"⟩, 3) := ⟨⟨by decide +kernel, by decide +kernel⟩, List.mem_of_getElem? (i := 39) (by decide +kernel), List.mem_of_getElem? (i := 209) (by decide +kernel), List.mem_of_getElem? (i := 210) (by decide +kernel)⟩
theorem lw_p2 : lw_okq (⟨"SheetRefs$Reader", "next", "()I"⟩, 3) := ⟨⟨by decide +kernel, by decide +kernel⟩, List.mem_of_getElem? (i := 39) (by decide +kernel), List.mem_of_getElem? (i := 213) (by decide +kernel), List.mem_of_getElem? (i := 214) (by decide +kernel)⟩
theorem lw_p3 : lw_okq (⟨"SheetRefs$Reader", "readNumber", "()I"⟩, 3) := ⟨⟨by decide +kernel, by decide +kernel⟩, List.mem_of_getElem? (i := 39) (by decide +kernel), List.mem_of_getElem? (i := 224) (by decide +kernel), List.mem_of_getElem? (i := 225) (by decide +kernel)⟩
theorem lw_p4 : lw_okq (⟨"SheetRefs$Reader", "takes", "(I)Z"⟩, 3) := ⟨⟨by decide +kernel, by decide +kernel⟩, List.mem_of_getElem? (i := 39) (by decide +kernel), List.mem_of_getElem? (i := 231) (by decide +kernel), List.mem_of_getElem? (i := 232) (by decide +kernel)⟩
theorem lw_p5 : lw_okq (⟨"SheetRefs$Reader", "readReference", "()I"⟩, 3) := ⟨⟨by decide +kernel, by decide +kernel⟩, List.mem_of_getElem? (i := 39) (by decide +kernel), List.mem_of_getElem? (i := 235) (by decide +kernel), List.mem_of_getElem? (i := 236) (by decide +kernel)⟩
theorem lw_p6 : lw_okq (⟨"SheetRefs$Reader", "readPlace", "()I"⟩, 3) := ⟨⟨by decide +kernel, by decide +kernel⟩, List.mem_of_getElem? (i := 39) (by decide +kernel), List.mem_of_getElem? (i := 239) (by decide +kernel), List.mem_of_getElem? (i := 240) (by decide +kernel)⟩
theorem lw_p7 : lw_okq (⟨"SheetRefs", "leaveState", "()V"⟩, 9) := ⟨⟨by decide +kernel, by decide +kernel⟩, List.mem_of_getElem? (i := 15) (by decide +kernel), List.mem_of_getElem? (i := 272) (by decide +kernel), List.mem_of_getElem? (i := 273) (by decide +kernel)⟩
theorem lw_p8 : lw_okq (⟨"SheetRefs$Sheet", "lookAhead", "()V"⟩, 2) := ⟨⟨by decide +kernel, by decide +kernel⟩, List.mem_of_getElem? (i := 56) (by decide +kernel), List.mem_of_getElem? (i := 349) (by decide +kernel), List.mem_of_getElem? (i := 350) (by decide +kernel)⟩
theorem lw_p9 : lw_okq (⟨"SheetRefs$Sheet", "takeAlong", "(III)V"⟩, 2) := ⟨⟨by decide +kernel, by decide +kernel⟩, List.mem_of_getElem? (i := 56) (by decide +kernel), List.mem_of_getElem? (i := 354) (by decide +kernel), List.mem_of_getElem? (i := 355) (by decide +kernel)⟩
theorem lw_p10 : lw_okq (⟨"SheetRefs$Sheet", "takeTo", "(II)V"⟩, 2) := ⟨⟨by decide +kernel, by decide +kernel⟩, List.mem_of_getElem? (i := 56) (by decide +kernel), List.mem_of_getElem? (i := 358) (by decide +kernel), List.mem_of_getElem? (i := 359) (by decide +kernel)⟩
theorem lw_p11 : lw_okq (⟨"SheetRefs$Sheet", "spreadTerms", "(III)I"⟩, 2) := ⟨⟨by decide +kernel, by decide +kernel⟩, List.mem_of_getElem? (i := 56) (by decide +kernel), List.mem_of_getElem? (i := 464) (by decide +kernel), List.mem_of_getElem? (i := 465) (by decide +kernel)⟩
theorem lw_p12 : lw_okq (⟨"SheetRefs$Page", "add", "(I)V"⟩, 2) := ⟨⟨by decide +kernel, by decide +kernel⟩, List.mem_of_getElem? (i := 129) (by decide +kernel), List.mem_of_getElem? (i := 501) (by decide +kernel), List.mem_of_getElem? (i := 502) (by decide +kernel)⟩
theorem lw_p13 : lw_okq (⟨"SheetRefs$Page", "writeTerm", "(I)V"⟩, 2) := ⟨⟨by decide +kernel, by decide +kernel⟩, List.mem_of_getElem? (i := 129) (by decide +kernel), List.mem_of_getElem? (i := 506) (by decide +kernel), List.mem_of_getElem? (i := 507) (by decide +kernel)⟩
theorem lw_p14 : lw_okq (⟨"SheetRefs$Page", "writeNumber", "(I)V"⟩, 2) := ⟨⟨by decide +kernel, by decide +kernel⟩, List.mem_of_getElem? (i := 129) (by decide +kernel), List.mem_of_getElem? (i := 512) (by decide +kernel), List.mem_of_getElem? (i := 513) (by decide +kernel)⟩
theorem lw_p15 : lw_okq (⟨"SheetRefs$Page", "writePlace", "(II)V"⟩, 2) := ⟨⟨by decide +kernel, by decide +kernel⟩, List.mem_of_getElem? (i := 129) (by decide +kernel), List.mem_of_getElem? (i := 516) (by decide +kernel), List.mem_of_getElem? (i := 517) (by decide +kernel)⟩
def lw_privs_1 : List (MethodName × Nat) := [(⟨"SheetRefs", "refused", "(I)I"⟩, 9), (⟨"SheetRefs$Reader", "readTerm", "()I"⟩, 3), (⟨"SheetRefs$Reader", "next", "()I"⟩, 3), (⟨"SheetRefs$Reader", "readNumber", "()I"⟩, 3), (⟨"SheetRefs$Reader", "takes", "(I)Z"⟩, 3), (⟨"SheetRefs$Reader", "readReference", "()I"⟩, 3), (⟨"SheetRefs$Reader", "readPlace", "()I"⟩, 3), (⟨"SheetRefs", "leaveState", "()V"⟩, 9), (⟨"SheetRefs$Sheet", "lookAhead", "()V"⟩, 2), (⟨"SheetRefs$Sheet", "takeAlong", "(III)V"⟩, 2), (⟨"SheetRefs$Sheet", "takeTo", "(II)V"⟩, 2), (⟨"SheetRefs$Sheet", "spreadTerms", "(III)I"⟩, 2), (⟨"SheetRefs$Page", "add", "(I)V"⟩, 2), (⟨"SheetRefs$Page", "writeTerm", "(I)V"⟩, 2), (⟨"SheetRefs$Page", "writeNumber", "(I)V"⟩, 2), (⟨"SheetRefs$Page", "writePlace", "(II)V"⟩, 2)]
theorem lw_r1 : ∀ q ∈ lw_privs_1, lw_okq q := List.forall_mem_cons.mpr ⟨lw_p0, List.forall_mem_cons.mpr ⟨lw_p1, List.forall_mem_cons.mpr ⟨lw_p2, List.forall_mem_cons.mpr ⟨lw_p3, List.forall_mem_cons.mpr ⟨lw_p4, List.forall_mem_cons.mpr ⟨lw_p5, List.forall_mem_cons.mpr ⟨lw_p6, List.forall_mem_cons.mpr ⟨lw_p7, List.forall_mem_cons.mpr ⟨lw_p8, List.forall_mem_cons.mpr ⟨lw_p9, List.forall_mem_cons.mpr ⟨lw_p10, List.forall_mem_cons.mpr ⟨lw_p11, List.forall_mem_cons.mpr ⟨lw_p12, List.forall_mem_cons.mpr ⟨lw_p13, List.forall_mem_cons.mpr ⟨lw_p14, List.forall_mem_cons.mpr ⟨lw_p15, fun _ h => absurd h List.not_mem_nil⟩⟩⟩⟩⟩⟩⟩⟩⟩⟩⟩⟩⟩⟩⟩⟩
theorem lw_p16 : lw_okq (⟨"SheetRefs$Values", "ask", "(II)I"⟩, 9) := ⟨⟨by decide +kernel, by decide +kernel⟩, List.mem_of_getElem? (i := 87) (by decide +kernel), List.mem_of_getElem? (i := 534) (by decide +kernel), List.mem_of_getElem? (i := 535) (by decide +kernel)⟩
theorem lw_p17 : lw_okq (⟨"SheetRefs$Values", "meet", "(III)V"⟩, 9) := ⟨⟨by decide +kernel, by decide +kernel⟩, List.mem_of_getElem? (i := 87) (by decide +kernel), List.mem_of_getElem? (i := 538) (by decide +kernel), List.mem_of_getElem? (i := 539) (by decide +kernel)⟩
theorem lw_p18 : lw_okq (⟨"SheetRefs$Values", "addTerm", "(IIII)I"⟩, 9) := ⟨⟨by decide +kernel, by decide +kernel⟩, List.mem_of_getElem? (i := 87) (by decide +kernel), List.mem_of_getElem? (i := 543) (by decide +kernel), List.mem_of_getElem? (i := 544) (by decide +kernel)⟩
theorem lw_p19 : lw_okq (⟨"SheetRefs$Values", "add", "(IIII)I"⟩, 9) := ⟨⟨by decide +kernel, by decide +kernel⟩, List.mem_of_getElem? (i := 87) (by decide +kernel), List.mem_of_getElem? (i := 549) (by decide +kernel), List.mem_of_getElem? (i := 550) (by decide +kernel)⟩
theorem lw_p20 : lw_okq (⟨"SheetRefs", "digestWith", "(JII)J"⟩, 9) := ⟨⟨by decide +kernel, by decide +kernel⟩, List.mem_of_getElem? (i := 15) (by decide +kernel), List.mem_of_getElem? (i := 608) (by decide +kernel), List.mem_of_getElem? (i := 609) (by decide +kernel)⟩
theorem lw_p21 : lw_okq (⟨"SheetRefsModel", "bad", "()I"⟩, 23) := ⟨⟨by decide +kernel, by decide +kernel⟩, List.mem_of_getElem? (i := 616) (by decide +kernel), List.mem_of_getElem? (i := 703) (by decide +kernel), List.mem_of_getElem? (i := 704) (by decide +kernel)⟩
theorem lw_p22 : lw_okq (⟨"SheetRefsModel", "isRead", "()Z"⟩, 23) := ⟨⟨by decide +kernel, by decide +kernel⟩, List.mem_of_getElem? (i := 616) (by decide +kernel), List.mem_of_getElem? (i := 718) (by decide +kernel), List.mem_of_getElem? (i := 719) (by decide +kernel)⟩
theorem lw_p23 : lw_okq (⟨"SheetRefsModel", "blanks", "()V"⟩, 23) := ⟨⟨by decide +kernel, by decide +kernel⟩, List.mem_of_getElem? (i := 616) (by decide +kernel), List.mem_of_getElem? (i := 722) (by decide +kernel), List.mem_of_getElem? (i := 723) (by decide +kernel)⟩
theorem lw_p24 : lw_okq (⟨"SheetRefsModel", "takesTerm", "(I)Z"⟩, 23) := ⟨⟨by decide +kernel, by decide +kernel⟩, List.mem_of_getElem? (i := 616) (by decide +kernel), List.mem_of_getElem? (i := 726) (by decide +kernel), List.mem_of_getElem? (i := 727) (by decide +kernel)⟩
theorem lw_p25 : lw_okq (⟨"SheetRefsModel", "isAt", "(II)Z"⟩, 23) := ⟨⟨by decide +kernel, by decide +kernel⟩, List.mem_of_getElem? (i := 616) (by decide +kernel), List.mem_of_getElem? (i := 730) (by decide +kernel), List.mem_of_getElem? (i := 731) (by decide +kernel)⟩
theorem lw_p26 : lw_okq (⟨"SheetRefsModel", "takesNumber", "(I)Z"⟩, 23) := ⟨⟨by decide +kernel, by decide +kernel⟩, List.mem_of_getElem? (i := 616) (by decide +kernel), List.mem_of_getElem? (i := 734) (by decide +kernel), List.mem_of_getElem? (i := 735) (by decide +kernel)⟩
theorem lw_p27 : lw_okq (⟨"SheetRefsModel", "fails", "()Z"⟩, 23) := ⟨⟨by decide +kernel, by decide +kernel⟩, List.mem_of_getElem? (i := 616) (by decide +kernel), List.mem_of_getElem? (i := 738) (by decide +kernel), List.mem_of_getElem? (i := 739) (by decide +kernel)⟩
theorem lw_p28 : lw_okq (⟨"SheetRefsModel", "takesPlace", "(III)Z"⟩, 23) := ⟨⟨by decide +kernel, by decide +kernel⟩, List.mem_of_getElem? (i := 616) (by decide +kernel), List.mem_of_getElem? (i := 742) (by decide +kernel), List.mem_of_getElem? (i := 743) (by decide +kernel)⟩
theorem lw_p29 : lw_okq (⟨"SheetRefsModel", "dollar", "(I)I"⟩, 23) := ⟨⟨by decide +kernel, by decide +kernel⟩, List.mem_of_getElem? (i := 616) (by decide +kernel), List.mem_of_getElem? (i := 746) (by decide +kernel), List.mem_of_getElem? (i := 747) (by decide +kernel)⟩
theorem lw_p30 : lw_okq (⟨"SheetRefsModel", "laysAside", "()V"⟩, 23) := ⟨⟨by decide +kernel, by decide +kernel⟩, List.mem_of_getElem? (i := 616) (by decide +kernel), List.mem_of_getElem? (i := 753) (by decide +kernel), List.mem_of_getElem? (i := 754) (by decide +kernel)⟩
theorem lw_p31 : lw_okq (⟨"SheetRefsModel", "remembers", "()V"⟩, 23) := ⟨⟨by decide +kernel, by decide +kernel⟩, List.mem_of_getElem? (i := 616) (by decide +kernel), List.mem_of_getElem? (i := 757) (by decide +kernel), List.mem_of_getElem? (i := 758) (by decide +kernel)⟩
def lw_privs_2 : List (MethodName × Nat) := [(⟨"SheetRefs$Values", "ask", "(II)I"⟩, 9), (⟨"SheetRefs$Values", "meet", "(III)V"⟩, 9), (⟨"SheetRefs$Values", "addTerm", "(IIII)I"⟩, 9), (⟨"SheetRefs$Values", "add", "(IIII)I"⟩, 9), (⟨"SheetRefs", "digestWith", "(JII)J"⟩, 9), (⟨"SheetRefsModel", "bad", "()I"⟩, 23), (⟨"SheetRefsModel", "isRead", "()Z"⟩, 23), (⟨"SheetRefsModel", "blanks", "()V"⟩, 23), (⟨"SheetRefsModel", "takesTerm", "(I)Z"⟩, 23), (⟨"SheetRefsModel", "isAt", "(II)Z"⟩, 23), (⟨"SheetRefsModel", "takesNumber", "(I)Z"⟩, 23), (⟨"SheetRefsModel", "fails", "()Z"⟩, 23), (⟨"SheetRefsModel", "takesPlace", "(III)Z"⟩, 23), (⟨"SheetRefsModel", "dollar", "(I)I"⟩, 23), (⟨"SheetRefsModel", "laysAside", "()V"⟩, 23), (⟨"SheetRefsModel", "remembers", "()V"⟩, 23)]
theorem lw_r2 : ∀ q ∈ lw_privs_2, lw_okq q := List.forall_mem_cons.mpr ⟨lw_p16, List.forall_mem_cons.mpr ⟨lw_p17, List.forall_mem_cons.mpr ⟨lw_p18, List.forall_mem_cons.mpr ⟨lw_p19, List.forall_mem_cons.mpr ⟨lw_p20, List.forall_mem_cons.mpr ⟨lw_p21, List.forall_mem_cons.mpr ⟨lw_p22, List.forall_mem_cons.mpr ⟨lw_p23, List.forall_mem_cons.mpr ⟨lw_p24, List.forall_mem_cons.mpr ⟨lw_p25, List.forall_mem_cons.mpr ⟨lw_p26, List.forall_mem_cons.mpr ⟨lw_p27, List.forall_mem_cons.mpr ⟨lw_p28, List.forall_mem_cons.mpr ⟨lw_p29, List.forall_mem_cons.mpr ⟨lw_p30, List.forall_mem_cons.mpr ⟨lw_p31, fun _ h => absurd h List.not_mem_nil⟩⟩⟩⟩⟩⟩⟩⟩⟩⟩⟩⟩⟩⟩⟩⟩
theorem lw_p32 : lw_okq (⟨"SheetRefsModel", "empty", "(I)V"⟩, 23) := ⟨⟨by decide +kernel, by decide +kernel⟩, List.mem_of_getElem? (i := 616) (by decide +kernel), List.mem_of_getElem? (i := 768) (by decide +kernel), List.mem_of_getElem? (i := 769) (by decide +kernel)⟩
theorem lw_p33 : lw_okq (⟨"SheetRefsModel", "wouldLose", "(III)Z"⟩, 23) := ⟨⟨by decide +kernel, by decide +kernel⟩, List.mem_of_getElem? (i := 616) (by decide +kernel), List.mem_of_getElem? (i := 776) (by decide +kernel), List.mem_of_getElem? (i := 777) (by decide +kernel)⟩
theorem lw_p34 : lw_okq (⟨"SheetRefsModel", "shifts", "(III)V"⟩, 23) := ⟨⟨by decide +kernel, by decide +kernel⟩, List.mem_of_getElem? (i := 616) (by decide +kernel), List.mem_of_getElem? (i := 783) (by decide +kernel), List.mem_of_getElem? (i := 784) (by decide +kernel)⟩
theorem lw_p35 : lw_okq (⟨"SheetRefsModel", "shiftsCells", "(III)V"⟩, 23) := ⟨⟨by decide +kernel, by decide +kernel⟩, List.mem_of_getElem? (i := 616) (by decide +kernel), List.mem_of_getElem? (i := 787) (by decide +kernel), List.mem_of_getElem? (i := 788) (by decide +kernel)⟩
theorem lw_p36 : lw_okq (⟨"SheetRefsModel", "takes", "(II)V"⟩, 23) := ⟨⟨by decide +kernel, by decide +kernel⟩, List.mem_of_getElem? (i := 616) (by decide +kernel), List.mem_of_getElem? (i := 794) (by decide +kernel), List.mem_of_getElem? (i := 795) (by decide +kernel)⟩
theorem lw_p37 : lw_okq (⟨"SheetRefsModel", "shiftsPlace", "(IIII)V"⟩, 23) := ⟨⟨by decide +kernel, by decide +kernel⟩, List.mem_of_getElem? (i := 616) (by decide +kernel), List.mem_of_getElem? (i := 801) (by decide +kernel), List.mem_of_getElem? (i := 802) (by decide +kernel)⟩
theorem lw_p38 : lw_okq (⟨"SheetRefsModel", "breaks", "(I)V"⟩, 23) := ⟨⟨by decide +kernel, by decide +kernel⟩, List.mem_of_getElem? (i := 616) (by decide +kernel), List.mem_of_getElem? (i := 805) (by decide +kernel), List.mem_of_getElem? (i := 806) (by decide +kernel)⟩
theorem lw_p39 : lw_okq (⟨"SheetRefsModel", "shiftsBlock", "(IIII)V"⟩, 23) := ⟨⟨by decide +kernel, by decide +kernel⟩, List.mem_of_getElem? (i := 616) (by decide +kernel), List.mem_of_getElem? (i := 809) (by decide +kernel), List.mem_of_getElem? (i := 810) (by decide +kernel)⟩
theorem lw_p40 : lw_okq (⟨"SheetRefsModel", "filled", "()I"⟩, 23) := ⟨⟨by decide +kernel, by decide +kernel⟩, List.mem_of_getElem? (i := 616) (by decide +kernel), List.mem_of_getElem? (i := 813) (by decide +kernel), List.mem_of_getElem? (i := 814) (by decide +kernel)⟩
theorem lw_p41 : lw_okq (⟨"SheetRefsModel", "liesIn", "(IIIII)Z"⟩, 23) := ⟨⟨by decide +kernel, by decide +kernel⟩, List.mem_of_getElem? (i := 616) (by decide +kernel), List.mem_of_getElem? (i := 828) (by decide +kernel), List.mem_of_getElem? (i := 829) (by decide +kernel)⟩
theorem lw_p42 : lw_okq (⟨"SheetRefsModel", "pushes", "(III)V"⟩, 23) := ⟨⟨by decide +kernel, by decide +kernel⟩, List.mem_of_getElem? (i := 616) (by decide +kernel), List.mem_of_getElem? (i := 832) (by decide +kernel), List.mem_of_getElem? (i := 833) (by decide +kernel)⟩
theorem lw_p43 : lw_okq (⟨"SheetRefsModel", "goesOn", "(III)V"⟩, 23) := ⟨⟨by decide +kernel, by decide +kernel⟩, List.mem_of_getElem? (i := 616) (by decide +kernel), List.mem_of_getElem? (i := 840) (by decide +kernel), List.mem_of_getElem? (i := 841) (by decide +kernel)⟩
theorem lw_p44 : lw_okq (⟨"SheetRefsModel", "writes", "(I)V"⟩, 23) := ⟨⟨by decide +kernel, by decide +kernel⟩, List.mem_of_getElem? (i := 616) (by decide +kernel), List.mem_of_getElem? (i := 856) (by decide +kernel), List.mem_of_getElem? (i := 857) (by decide +kernel)⟩
theorem lw_p45 : lw_okq (⟨"SheetRefsModel", "writesTerm", "(I)V"⟩, 23) := ⟨⟨by decide +kernel, by decide +kernel⟩, List.mem_of_getElem? (i := 616) (by decide +kernel), List.mem_of_getElem? (i := 860) (by decide +kernel), List.mem_of_getElem? (i := 861) (by decide +kernel)⟩
theorem lw_p46 : lw_okq (⟨"SheetRefsModel", "writesNumber", "(I)V"⟩, 23) := ⟨⟨by decide +kernel, by decide +kernel⟩, List.mem_of_getElem? (i := 616) (by decide +kernel), List.mem_of_getElem? (i := 864) (by decide +kernel), List.mem_of_getElem? (i := 865) (by decide +kernel)⟩
theorem lw_p47 : lw_okq (⟨"SheetRefsModel", "writesPlace", "(III)V"⟩, 23) := ⟨⟨by decide +kernel, by decide +kernel⟩, List.mem_of_getElem? (i := 616) (by decide +kernel), List.mem_of_getElem? (i := 868) (by decide +kernel), List.mem_of_getElem? (i := 869) (by decide +kernel)⟩
def lw_privs_3 : List (MethodName × Nat) := [(⟨"SheetRefsModel", "empty", "(I)V"⟩, 23), (⟨"SheetRefsModel", "wouldLose", "(III)Z"⟩, 23), (⟨"SheetRefsModel", "shifts", "(III)V"⟩, 23), (⟨"SheetRefsModel", "shiftsCells", "(III)V"⟩, 23), (⟨"SheetRefsModel", "takes", "(II)V"⟩, 23), (⟨"SheetRefsModel", "shiftsPlace", "(IIII)V"⟩, 23), (⟨"SheetRefsModel", "breaks", "(I)V"⟩, 23), (⟨"SheetRefsModel", "shiftsBlock", "(IIII)V"⟩, 23), (⟨"SheetRefsModel", "filled", "()I"⟩, 23), (⟨"SheetRefsModel", "liesIn", "(IIIII)Z"⟩, 23), (⟨"SheetRefsModel", "pushes", "(III)V"⟩, 23), (⟨"SheetRefsModel", "goesOn", "(III)V"⟩, 23), (⟨"SheetRefsModel", "writes", "(I)V"⟩, 23), (⟨"SheetRefsModel", "writesTerm", "(I)V"⟩, 23), (⟨"SheetRefsModel", "writesNumber", "(I)V"⟩, 23), (⟨"SheetRefsModel", "writesPlace", "(III)V"⟩, 23)]
theorem lw_r3 : ∀ q ∈ lw_privs_3, lw_okq q := List.forall_mem_cons.mpr ⟨lw_p32, List.forall_mem_cons.mpr ⟨lw_p33, List.forall_mem_cons.mpr ⟨lw_p34, List.forall_mem_cons.mpr ⟨lw_p35, List.forall_mem_cons.mpr ⟨lw_p36, List.forall_mem_cons.mpr ⟨lw_p37, List.forall_mem_cons.mpr ⟨lw_p38, List.forall_mem_cons.mpr ⟨lw_p39, List.forall_mem_cons.mpr ⟨lw_p40, List.forall_mem_cons.mpr ⟨lw_p41, List.forall_mem_cons.mpr ⟨lw_p42, List.forall_mem_cons.mpr ⟨lw_p43, List.forall_mem_cons.mpr ⟨lw_p44, List.forall_mem_cons.mpr ⟨lw_p45, List.forall_mem_cons.mpr ⟨lw_p46, List.forall_mem_cons.mpr ⟨lw_p47, fun _ h => absurd h List.not_mem_nil⟩⟩⟩⟩⟩⟩⟩⟩⟩⟩⟩⟩⟩⟩⟩⟩
theorem lw_p48 : lw_okq (⟨"SheetRefsModel", "valueOf", "(I)I"⟩, 23) := ⟨⟨by decide +kernel, by decide +kernel⟩, List.mem_of_getElem? (i := 616) (by decide +kernel), List.mem_of_getElem? (i := 876) (by decide +kernel), List.mem_of_getElem? (i := 877) (by decide +kernel)⟩
theorem lw_p49 : lw_okq (⟨"SheetRefsModel", "finds", "(I)V"⟩, 23) := ⟨⟨by decide +kernel, by decide +kernel⟩, List.mem_of_getElem? (i := 616) (by decide +kernel), List.mem_of_getElem? (i := 880) (by decide +kernel), List.mem_of_getElem? (i := 881) (by decide +kernel)⟩
theorem lw_p50 : lw_okq (⟨"SheetRefsModel", "asks", "(I)V"⟩, 23) := ⟨⟨by decide +kernel, by decide +kernel⟩, List.mem_of_getElem? (i := 616) (by decide +kernel), List.mem_of_getElem? (i := 884) (by decide +kernel), List.mem_of_getElem? (i := 885) (by decide +kernel)⟩
theorem lw_p51 : lw_okq (⟨"SheetRefsModel", "meets", "(II)V"⟩, 23) := ⟨⟨by decide +kernel, by decide +kernel⟩, List.mem_of_getElem? (i := 616) (by decide +kernel), List.mem_of_getElem? (i := 888) (by decide +kernel), List.mem_of_getElem? (i := 889) (by decide +kernel)⟩
theorem lw_p52 : lw_okq (⟨"SheetRefsModel", "adds", "(I)V"⟩, 23) := ⟨⟨by decide +kernel, by decide +kernel⟩, List.mem_of_getElem? (i := 616) (by decide +kernel), List.mem_of_getElem? (i := 892) (by decide +kernel), List.mem_of_getElem? (i := 893) (by decide +kernel)⟩
theorem lw_p53 : lw_okq (⟨"SheetRefsModel", "goesOnAsking", "()V"⟩, 23) := ⟨⟨by decide +kernel, by decide +kernel⟩, List.mem_of_getElem? (i := 616) (by decide +kernel), List.mem_of_getElem? (i := 897) (by decide +kernel), List.mem_of_getElem? (i := 898) (by decide +kernel)⟩
theorem lw_p54 : lw_okq (⟨"SheetRefsModel", "asksOfBlock", "(II)V"⟩, 23) := ⟨⟨by decide +kernel, by decide +kernel⟩, List.mem_of_getElem? (i := 616) (by decide +kernel), List.mem_of_getElem? (i := 901) (by decide +kernel), List.mem_of_getElem? (i := 902) (by decide +kernel)⟩
theorem lw_p55 : lw_okq (⟨"SheetRefsModel", "whyOf", "(I)I"⟩, 23) := ⟨⟨by decide +kernel, by decide +kernel⟩, List.mem_of_getElem? (i := 616) (by decide +kernel), List.mem_of_getElem? (i := 909) (by decide +kernel), List.mem_of_getElem? (i := 910) (by decide +kernel)⟩
theorem lw_p56 : lw_okq (⟨"SheetRefsModel", "deepOf", "(I)I"⟩, 23) := ⟨⟨by decide +kernel, by decide +kernel⟩, List.mem_of_getElem? (i := 616) (by decide +kernel), List.mem_of_getElem? (i := 917) (by decide +kernel), List.mem_of_getElem? (i := 918) (by decide +kernel)⟩
theorem lw_p57 : lw_okq (⟨"SheetRefsModel", "refersTo", "(III)Z"⟩, 23) := ⟨⟨by decide +kernel, by decide +kernel⟩, List.mem_of_getElem? (i := 616) (by decide +kernel), List.mem_of_getElem? (i := 925) (by decide +kernel), List.mem_of_getElem? (i := 926) (by decide +kernel)⟩
theorem lw_p58 : lw_okq (⟨"SheetRefsModel", "countOf", "(I)I"⟩, 23) := ⟨⟨by decide +kernel, by decide +kernel⟩, List.mem_of_getElem? (i := 616) (by decide +kernel), List.mem_of_getElem? (i := 933) (by decide +kernel), List.mem_of_getElem? (i := 934) (by decide +kernel)⟩
theorem lw_p59 : lw_okq (⟨"SheetRefsModel", "toldOf", "(I)I"⟩, 23) := ⟨⟨by decide +kernel, by decide +kernel⟩, List.mem_of_getElem? (i := 616) (by decide +kernel), List.mem_of_getElem? (i := 941) (by decide +kernel), List.mem_of_getElem? (i := 942) (by decide +kernel)⟩
theorem lw_p60 : lw_okq (⟨"SheetRefsModel", "mix", "(J)V"⟩, 23) := ⟨⟨by decide +kernel, by decide +kernel⟩, List.mem_of_getElem? (i := 616) (by decide +kernel), List.mem_of_getElem? (i := 950) (by decide +kernel), List.mem_of_getElem? (i := 951) (by decide +kernel)⟩
def lw_privs_4 : List (MethodName × Nat) := [(⟨"SheetRefsModel", "valueOf", "(I)I"⟩, 23), (⟨"SheetRefsModel", "finds", "(I)V"⟩, 23), (⟨"SheetRefsModel", "asks", "(I)V"⟩, 23), (⟨"SheetRefsModel", "meets", "(II)V"⟩, 23), (⟨"SheetRefsModel", "adds", "(I)V"⟩, 23), (⟨"SheetRefsModel", "goesOnAsking", "()V"⟩, 23), (⟨"SheetRefsModel", "asksOfBlock", "(II)V"⟩, 23), (⟨"SheetRefsModel", "whyOf", "(I)I"⟩, 23), (⟨"SheetRefsModel", "deepOf", "(I)I"⟩, 23), (⟨"SheetRefsModel", "refersTo", "(III)Z"⟩, 23), (⟨"SheetRefsModel", "countOf", "(I)I"⟩, 23), (⟨"SheetRefsModel", "toldOf", "(I)I"⟩, 23), (⟨"SheetRefsModel", "mix", "(J)V"⟩, 23)]
theorem lw_r4 : ∀ q ∈ lw_privs_4, lw_okq q := List.forall_mem_cons.mpr ⟨lw_p48, List.forall_mem_cons.mpr ⟨lw_p49, List.forall_mem_cons.mpr ⟨lw_p50, List.forall_mem_cons.mpr ⟨lw_p51, List.forall_mem_cons.mpr ⟨lw_p52, List.forall_mem_cons.mpr ⟨lw_p53, List.forall_mem_cons.mpr ⟨lw_p54, List.forall_mem_cons.mpr ⟨lw_p55, List.forall_mem_cons.mpr ⟨lw_p56, List.forall_mem_cons.mpr ⟨lw_p57, List.forall_mem_cons.mpr ⟨lw_p58, List.forall_mem_cons.mpr ⟨lw_p59, List.forall_mem_cons.mpr ⟨lw_p60, fun _ h => absurd h List.not_mem_nil⟩⟩⟩⟩⟩⟩⟩⟩⟩⟩⟩⟩⟩
def lw_privs : List (MethodName × Nat) := lw_privs_1 ++ (lw_privs_2 ++ (lw_privs_3 ++ (lw_privs_4)))
def lw_tbl : List Cond := k2_sels lw_privs ++ tables_1
theorem lw_privs_ok : ∀ q ∈ lw_privs, lw_okq q := by
  show ∀ q ∈ lw_privs_1 ++ (lw_privs_2 ++ (lw_privs_3 ++ (lw_privs_4))), lw_okq q
  exact List.forall_mem_append.mpr ⟨lw_r1, List.forall_mem_append.mpr ⟨lw_r2, List.forall_mem_append.mpr ⟨lw_r3, lw_r4⟩⟩⟩
end
section
def RX0 : String := "SheetRefs$Area"
def TX0 : u_T := fun k => match k with
  | 0 => ("SheetRefs$Area", "column", "I", true)
  | 1 => ("SheetRefs$Area", "row", "I", true)
  | 2 => ("SheetRefs$Area", "width", "I", true)
  | _ => ("SheetRefs$Area", "height", "I", true)
def tyX0 : Nat → FieldType := fun k => match k with
  | 0 => .int
  | 1 => .int
  | 2 => .int
  | _ => .int
abbrev wsX00 : List Cond := u_ws RX0 TX0 4
theorem nmX0 : ∀ a, a < 4 → ∀ b, b < 4 → a ≠ b → (TX0 a).2.1 ≠ (TX0 b).2.1 := by decide +kernel
theorem tyX0_ok : ∀ k, k < 4 → parseFieldDescriptor (TX0 k).2.2.1 = some (tyX0 k) := by decide +kernel
abbrev cX0_init : ByteArray := prog_2_method_1_code
def yX0_init : MethodName := ⟨RX0, "<init>", "(IIII)V"⟩
abbrev cX0_size : ByteArray := prog_2_method_2_code
def yX0_size : MethodName := ⟨RX0, "size", "()I"⟩
abbrev cX0_cell : ByteArray := prog_2_method_3_code
def yX0_cell : MethodName := ⟨RX0, "cell", "(I)I"⟩
abbrev cX0_holds : ByteArray := prog_2_method_4_code
def yX0_holds : MethodName := ⟨RX0, "holds", "(I)Z"⟩
def RX1 : String := "SheetRefs$Page"
def TX1 : u_T := fun k => match k with
  | 0 => ("SheetRefs$Page", "letters", "[I", true)
  | _ => ("SheetRefs$Page", "length", "I", false)
def tyX1 : Nat → FieldType := fun k => match k with
  | 0 => .array .int
  | _ => .int
abbrev wsX10 : List Cond := u_ws RX1 TX1 2
theorem nmX1 : ∀ a, a < 2 → ∀ b, b < 2 → a ≠ b → (TX1 a).2.1 ≠ (TX1 b).2.1 := by decide +kernel
theorem tyX1_ok : ∀ k, k < 2 → parseFieldDescriptor (TX1 k).2.2.1 = some (tyX1 k) := by decide +kernel
abbrev cX1_init : ByteArray := prog_3_method_1_code
def yX1_init : MethodName := ⟨RX1, "<init>", "()V"⟩
abbrev cX1_letterAt : ByteArray := prog_3_method_2_code
def yX1_letterAt : MethodName := ⟨RX1, "letterAt", "(I)I"⟩
abbrev cX1_write : ByteArray := prog_3_method_3_code
def yX1_write : MethodName := ⟨RX1, "write", "(LSheetRefs$Sheet;I)V"⟩
abbrev cX1_writeTerm : ByteArray := prog_3_method_4_code
def yX1_writeTerm : MethodName := ⟨RX1, "writeTerm", "(I)V"⟩
abbrev cX1_writeNumber : ByteArray := prog_3_method_5_code
def yX1_writeNumber : MethodName := ⟨RX1, "writeNumber", "(I)V"⟩
abbrev cX1_writePlace : ByteArray := prog_3_method_6_code
def yX1_writePlace : MethodName := ⟨RX1, "writePlace", "(II)V"⟩
abbrev cX1_add : ByteArray := prog_3_method_7_code
def yX1_add : MethodName := ⟨RX1, "add", "(I)V"⟩
def RX2 : String := "SheetRefs$Past"
def TX2 : u_T := fun k => match k with
  | 0 => ("SheetRefs$Past", "states", "[I", true)
  | 1 => ("SheetRefs$Past", "next", "I", false)
  | _ => ("SheetRefs$Past", "size", "I", false)
def tyX2 : Nat → FieldType := fun k => match k with
  | 0 => .array .int
  | 1 => .int
  | _ => .int
abbrev wsX20 : List Cond := u_ws RX2 TX2 3
theorem nmX2 : ∀ a, a < 3 → ∀ b, b < 3 → a ≠ b → (TX2 a).2.1 ≠ (TX2 b).2.1 := by decide +kernel
theorem tyX2_ok : ∀ k, k < 3 → parseFieldDescriptor (TX2 k).2.2.1 = some (tyX2 k) := by decide +kernel
abbrev cX2_init : ByteArray := prog_4_method_1_code
def yX2_init : MethodName := ⟨RX2, "<init>", "()V"⟩
abbrev cX2_keep : ByteArray := prog_4_method_2_code
def yX2_keep : MethodName := ⟨RX2, "keep", "(LSheetRefs$Sheet;)V"⟩
abbrev cX2_restore : ByteArray := prog_4_method_3_code
def yX2_restore : MethodName := ⟨RX2, "restore", "(LSheetRefs$Sheet;)V"⟩
def RX3 : String := "SheetRefs$Reader"
def TX3 : u_T := fun k => match k with
  | 0 => ("SheetRefs$Reader", "text", "LSheetRefs$Text;", true)
  | 1 => ("SheetRefs$Reader", "found", "[I", true)
  | _ => ("SheetRefs$Reader", "place", "I", false)
def tyX3 : Nat → FieldType := fun k => match k with
  | 0 => .object "SheetRefs$Text"
  | 1 => .array .int
  | _ => .int
abbrev wsX30 : List Cond := u_ws RX3 TX3 3
theorem nmX3 : ∀ a, a < 3 → ∀ b, b < 3 → a ≠ b → (TX3 a).2.1 ≠ (TX3 b).2.1 := by decide +kernel
theorem tyX3_ok : ∀ k, k < 3 → parseFieldDescriptor (TX3 k).2.2.1 = some (tyX3 k) := by decide +kernel
abbrev cX3_init : ByteArray := prog_5_method_1_code
def yX3_init : MethodName := ⟨RX3, "<init>", "(LSheetRefs$Text;)V"⟩
abbrev cX3_read : ByteArray := prog_5_method_2_code
def yX3_read : MethodName := ⟨RX3, "read", "()I"⟩
abbrev cX3_fault : ByteArray := prog_5_method_3_code
def yX3_fault : MethodName := ⟨RX3, "fault", "()I"⟩
abbrev cX3_readTerm : ByteArray := prog_5_method_4_code
def yX3_readTerm : MethodName := ⟨RX3, "readTerm", "()I"⟩
abbrev cX3_readNumber : ByteArray := prog_5_method_5_code
def yX3_readNumber : MethodName := ⟨RX3, "readNumber", "()I"⟩
abbrev cX3_readReference : ByteArray := prog_5_method_6_code
def yX3_readReference : MethodName := ⟨RX3, "readReference", "()I"⟩
abbrev cX3_readPlace : ByteArray := prog_5_method_7_code
def yX3_readPlace : MethodName := ⟨RX3, "readPlace", "()I"⟩
abbrev cX3_takes : ByteArray := prog_5_method_8_code
def yX3_takes : MethodName := ⟨RX3, "takes", "(I)Z"⟩
abbrev cX3_next : ByteArray := prog_5_method_9_code
def yX3_next : MethodName := ⟨RX3, "next", "()I"⟩
abbrev cX3_isFigure : ByteArray := prog_5_method_10_code
def yX3_isFigure : MethodName := ⟨RX3, "isFigure", "(I)Z"⟩
abbrev cX3_columnNamed : ByteArray := prog_5_method_11_code
def yX3_columnNamed : MethodName := ⟨RX3, "columnNamed", "(I)I"⟩
def RX4 : String := "SheetRefs$Sheet"
def TX4 : u_T := fun k => match k with
  | 0 => ("SheetRefs$Sheet", "slots", "[I", true)
  | _ => ("SheetRefs$Sheet", "ahead", "[I", true)
def tyX4 : Nat → FieldType := fun k => match k with
  | 0 => .array .int
  | _ => .array .int
abbrev wsX40 : List Cond := u_ws RX4 TX4 2
theorem nmX4 : ∀ a, a < 2 → ∀ b, b < 2 → a ≠ b → (TX4 a).2.1 ≠ (TX4 b).2.1 := by decide +kernel
theorem tyX4_ok : ∀ k, k < 2 → parseFieldDescriptor (TX4 k).2.2.1 = some (tyX4 k) := by decide +kernel
abbrev cX4_init : ByteArray := prog_6_method_1_code
def yX4_init : MethodName := ⟨RX4, "<init>", "()V"⟩
abbrev cX4_termOf : ByteArray := prog_6_method_2_code
def yX4_termOf : MethodName := ⟨RX4, "termOf", "(II)I"⟩
abbrev cX4_sizeOf : ByteArray := prog_6_method_3_code
def yX4_sizeOf : MethodName := ⟨RX4, "sizeOf", "(I)I"⟩
abbrev cX4_isEmpty : ByteArray := prog_6_method_4_code
def yX4_isEmpty : MethodName := ⟨RX4, "isEmpty", "(I)Z"⟩
abbrev cX4_fill : ByteArray := prog_6_method_5_code
def yX4_fill : MethodName := ⟨RX4, "fill", "(I[I)V"⟩
abbrev cX4_drop : ByteArray := prog_6_method_6_code
def yX4_drop : MethodName := ⟨RX4, "drop", "(I)V"⟩
abbrev cX4_wouldLose : ByteArray := prog_6_method_7_code
def yX4_wouldLose : MethodName := ⟨RX4, "wouldLose", "(III)Z"⟩
abbrev cX4_openLines : ByteArray := prog_6_method_8_code
def yX4_openLines : MethodName := ⟨RX4, "openLines", "(III)V"⟩
abbrev cX4_closeLines : ByteArray := prog_6_method_9_code
def yX4_closeLines : MethodName := ⟨RX4, "closeLines", "(III)V"⟩
abbrev cX4_moveArea : ByteArray := prog_6_method_10_code
def yX4_moveArea : MethodName := ⟨RX4, "moveArea", "(LSheetRefs$Area;LSheetRefs$Area;)I"⟩
abbrev cX4_copyArea : ByteArray := prog_6_method_11_code
def yX4_copyArea : MethodName := ⟨RX4, "copyArea", "(LSheetRefs$Area;LSheetRefs$Area;)I"⟩
abbrev cX4_filledCells : ByteArray := prog_6_method_12_code
def yX4_filledCells : MethodName := ⟨RX4, "filledCells", "()I"⟩
abbrev cX4_allTerms : ByteArray := prog_6_method_13_code
def yX4_allTerms : MethodName := ⟨RX4, "allTerms", "()I"⟩
abbrev cX4_brokenTerms : ByteArray := prog_6_method_14_code
def yX4_brokenTerms : MethodName := ⟨RX4, "brokenTerms", "()I"⟩
abbrev cX4_referencesTo : ByteArray := prog_6_method_15_code
def yX4_referencesTo : MethodName := ⟨RX4, "referencesTo", "(II)I"⟩
abbrev cX4_lookAhead : ByteArray := prog_6_method_16_code
def yX4_lookAhead : MethodName := ⟨RX4, "lookAhead", "()V"⟩
abbrev cX4_takeTo : ByteArray := prog_6_method_17_code
def yX4_takeTo : MethodName := ⟨RX4, "takeTo", "(II)V"⟩
abbrev cX4_takeAlong : ByteArray := prog_6_method_18_code
def yX4_takeAlong : MethodName := ⟨RX4, "takeAlong", "(III)V"⟩
abbrev cX4_spreadTerms : ByteArray := prog_6_method_19_code
def yX4_spreadTerms : MethodName := ⟨RX4, "spreadTerms", "(III)I"⟩
abbrev cX4_whenMoved : ByteArray := prog_6_method_20_code
def yX4_whenMoved : MethodName := ⟨RX4, "whenMoved", "(ILSheetRefs$Area;LSheetRefs$Area;)I"⟩
abbrev cX4_lineOf : ByteArray := prog_6_method_21_code
def yX4_lineOf : MethodName := ⟨RX4, "lineOf", "(II)I"⟩
abbrev cX4_lineAfterComing : ByteArray := prog_6_method_22_code
def yX4_lineAfterComing : MethodName := ⟨RX4, "lineAfterComing", "(III)I"⟩
abbrev cX4_lineAfterGoing : ByteArray := prog_6_method_23_code
def yX4_lineAfterGoing : MethodName := ⟨RX4, "lineAfterGoing", "(III)I"⟩
def RX5 : String := "SheetRefs$Term"
def TX5 : u_T := fun k => match k with
  | _ => ("", "", "", false)
def tyX5 : Nat → FieldType := fun k => match k with
  | _ => .int
abbrev wsX50 : List Cond := u_ws RX5 TX5 0
theorem nmX5 : ∀ a, a < 0 → ∀ b, b < 0 → a ≠ b → (TX5 a).2.1 ≠ (TX5 b).2.1 := by decide +kernel
theorem tyX5_ok : ∀ k, k < 0 → parseFieldDescriptor (TX5 k).2.2.1 = some (tyX5 k) := by decide +kernel
abbrev cX5_ofNumber : ByteArray := prog_7_method_2_code
def yX5_ofNumber : MethodName := ⟨RX5, "ofNumber", "(I)I"⟩
abbrev cX5_ofPlace : ByteArray := prog_7_method_3_code
def yX5_ofPlace : MethodName := ⟨RX5, "ofPlace", "(III)I"⟩
abbrev cX5_ofBlock : ByteArray := prog_7_method_4_code
def yX5_ofBlock : MethodName := ⟨RX5, "ofBlock", "(II)I"⟩
abbrev cX5_kind : ByteArray := prog_7_method_5_code
def yX5_kind : MethodName := ⟨RX5, "kind", "(I)I"⟩
abbrev cX5_fixed : ByteArray := prog_7_method_6_code
def yX5_fixed : MethodName := ⟨RX5, "fixed", "(I)I"⟩
abbrev cX5_number : ByteArray := prog_7_method_7_code
def yX5_number : MethodName := ⟨RX5, "number", "(I)I"⟩
abbrev cX5_coordinate : ByteArray := prog_7_method_8_code
def yX5_coordinate : MethodName := ⟨RX5, "coordinate", "(II)I"⟩
abbrev cX5_refers : ByteArray := prog_7_method_9_code
def yX5_refers : MethodName := ⟨RX5, "refers", "(I)Z"⟩
abbrev cX5_least : ByteArray := prog_7_method_10_code
def yX5_least : MethodName := ⟨RX5, "least", "(II)I"⟩
abbrev cX5_greatest : ByteArray := prog_7_method_11_code
def yX5_greatest : MethodName := ⟨RX5, "greatest", "(II)I"⟩
abbrev cX5_whenLinesCome : ByteArray := prog_7_method_12_code
def yX5_whenLinesCome : MethodName := ⟨RX5, "whenLinesCome", "(IIII)I"⟩
abbrev cX5_whenLinesGo : ByteArray := prog_7_method_13_code
def yX5_whenLinesGo : MethodName := ⟨RX5, "whenLinesGo", "(IIII)I"⟩
abbrev cX5_further : ByteArray := prog_7_method_14_code
def yX5_further : MethodName := ⟨RX5, "further", "(IIII)I"⟩
abbrev cX5_ordered : ByteArray := prog_7_method_15_code
def yX5_ordered : MethodName := ⟨RX5, "ordered", "(I)I"⟩
abbrev cX5_crossed : ByteArray := prog_7_method_16_code
def yX5_crossed : MethodName := ⟨RX5, "crossed", "(II)I"⟩
abbrev cX5_with : ByteArray := prog_7_method_17_code
def yX5_with : MethodName := ⟨RX5, "with", "(III)I"⟩
def RX6 : String := "SheetRefs$Text"
def TX6 : u_T := fun k => match k with
  | 0 => ("SheetRefs$Text", "bytes", "[I", true)
  | _ => ("SheetRefs$Text", "length", "I", false)
def tyX6 : Nat → FieldType := fun k => match k with
  | 0 => .array .int
  | _ => .int
abbrev wsX60 : List Cond := u_ws RX6 TX6 2
theorem nmX6 : ∀ a, a < 2 → ∀ b, b < 2 → a ≠ b → (TX6 a).2.1 ≠ (TX6 b).2.1 := by decide +kernel
theorem tyX6_ok : ∀ k, k < 2 → parseFieldDescriptor (TX6 k).2.2.1 = some (tyX6 k) := by decide +kernel
abbrev cX6_init : ByteArray := prog_8_method_1_code
def yX6_init : MethodName := ⟨RX6, "<init>", "()V"⟩
abbrev cX6_isFull : ByteArray := prog_8_method_2_code
def yX6_isFull : MethodName := ⟨RX6, "isFull", "()Z"⟩
abbrev cX6_add : ByteArray := prog_8_method_3_code
def yX6_add : MethodName := ⟨RX6, "add", "(I)I"⟩
abbrev cX6_drop : ByteArray := prog_8_method_4_code
def yX6_drop : MethodName := ⟨RX6, "drop", "()I"⟩
abbrev cX6_byteAt : ByteArray := prog_8_method_5_code
def yX6_byteAt : MethodName := ⟨RX6, "byteAt", "(I)I"⟩
def RX7 : String := "SheetRefs$Values"
def TX7 : u_T := fun k => match k with
  | 0 => ("SheetRefs$Values", "sheet", "LSheetRefs$Sheet;", true)
  | 1 => ("SheetRefs$Values", "faults", "[I", true)
  | 2 => ("SheetRefs$Values", "sums", "[I", true)
  | 3 => ("SheetRefs$Values", "faultCells", "[I", true)
  | 4 => ("SheetRefs$Values", "faultDepths", "[I", true)
  | 5 => ("SheetRefs$Values", "asked", "[Z", true)
  | 6 => ("SheetRefs$Values", "met", "I", false)
  | 7 => ("SheetRefs$Values", "metAt", "I", false)
  | _ => ("SheetRefs$Values", "metDepth", "I", false)
def tyX7 : Nat → FieldType := fun k => match k with
  | 0 => .object "SheetRefs$Sheet"
  | 1 => .array .int
  | 2 => .array .int
  | 3 => .array .int
  | 4 => .array .int
  | 5 => .array .boolean
  | 6 => .int
  | 7 => .int
  | _ => .int
abbrev wsX70 : List Cond := u_ws RX7 TX7 9
theorem nmX7 : ∀ a, a < 9 → ∀ b, b < 9 → a ≠ b → (TX7 a).2.1 ≠ (TX7 b).2.1 := by decide +kernel
theorem tyX7_ok : ∀ k, k < 9 → parseFieldDescriptor (TX7 k).2.2.1 = some (tyX7 k) := by decide +kernel
abbrev cX7_init : ByteArray := prog_9_method_1_code
def yX7_init : MethodName := ⟨RX7, "<init>", "(LSheetRefs$Sheet;)V"⟩
abbrev cX7_forget : ByteArray := prog_9_method_2_code
def yX7_forget : MethodName := ⟨RX7, "forget", "()V"⟩
abbrev cX7_faultyCells : ByteArray := prog_9_method_3_code
def yX7_faultyCells : MethodName := ⟨RX7, "faultyCells", "()I"⟩
abbrev cX7_isFaulty : ByteArray := prog_9_method_4_code
def yX7_isFaulty : MethodName := ⟨RX7, "isFaulty", "(I)Z"⟩
abbrev cX7_ask : ByteArray := prog_9_method_5_code
def yX7_ask : MethodName := ⟨RX7, "ask", "(II)I"⟩
abbrev cX7_addTerm : ByteArray := prog_9_method_6_code
def yX7_addTerm : MethodName := ⟨RX7, "addTerm", "(IIII)I"⟩
abbrev cX7_add : ByteArray := prog_9_method_7_code
def yX7_add : MethodName := ⟨RX7, "add", "(IIII)I"⟩
abbrev cX7_meet : ByteArray := prog_9_method_8_code
def yX7_meet : MethodName := ⟨RX7, "meet", "(III)V"⟩
def RX8 : String := "SheetRefs"
def TX8 : u_T := fun k => match k with
  | 0 => ("SheetRefs", "text", "LSheetRefs$Text;", true)
  | 1 => ("SheetRefs", "reader", "LSheetRefs$Reader;", true)
  | 2 => ("SheetRefs", "sheet", "LSheetRefs$Sheet;", true)
  | 3 => ("SheetRefs", "past", "LSheetRefs$Past;", true)
  | 4 => ("SheetRefs", "values", "LSheetRefs$Values;", true)
  | 5 => ("SheetRefs", "page", "LSheetRefs$Page;", true)
  | 6 => ("SheetRefs", "bads", "I", false)
  | 7 => ("SheetRefs", "nos", "I", false)
  | _ => ("SheetRefs", "fulls", "I", false)
def tyX8 : Nat → FieldType := fun k => match k with
  | 0 => .object "SheetRefs$Text"
  | 1 => .object "SheetRefs$Reader"
  | 2 => .object "SheetRefs$Sheet"
  | 3 => .object "SheetRefs$Past"
  | 4 => .object "SheetRefs$Values"
  | 5 => .object "SheetRefs$Page"
  | 6 => .int
  | 7 => .int
  | _ => .int
abbrev wsX80 : List Cond := u_ws RX8 TX8 9
theorem nmX8 : ∀ a, a < 9 → ∀ b, b < 9 → a ≠ b → (TX8 a).2.1 ≠ (TX8 b).2.1 := by decide +kernel
theorem tyX8_ok : ∀ k, k < 9 → parseFieldDescriptor (TX8 k).2.2.1 = some (tyX8 k) := by decide +kernel
abbrev cX8_init : ByteArray := prog_1_method_1_code
def yX8_init : MethodName := ⟨RX8, "<init>", "()V"⟩
abbrev cX8_type : ByteArray := prog_1_method_2_code
def yX8_type : MethodName := ⟨RX8, "type", "(I)I"⟩
abbrev cX8_clear : ByteArray := prog_1_method_3_code
def yX8_clear : MethodName := ⟨RX8, "clear", "()I"⟩
abbrev cX8_put : ByteArray := prog_1_method_4_code
def yX8_put : MethodName := ⟨RX8, "put", "(II)I"⟩
abbrev cX8_empties : ByteArray := prog_1_method_5_code
def yX8_empties : MethodName := ⟨RX8, "empties", "(II)I"⟩
abbrev cX8_comes : ByteArray := prog_1_method_6_code
def yX8_comes : MethodName := ⟨RX8, "comes", "(III)I"⟩
abbrev cX8_goes : ByteArray := prog_1_method_7_code
def yX8_goes : MethodName := ⟨RX8, "goes", "(III)I"⟩
abbrev cX8_moves : ByteArray := prog_1_method_8_code
def yX8_moves : MethodName := ⟨RX8, "moves", "(IIIIII)I"⟩
abbrev cX8_copies : ByteArray := prog_1_method_9_code
def yX8_copies : MethodName := ⟨RX8, "copies", "(IIIIII)I"⟩
abbrev cX8_back : ByteArray := prog_1_method_10_code
def yX8_back : MethodName := ⟨RX8, "back", "()I"⟩
abbrev cX8_terms : ByteArray := prog_1_method_11_code
def yX8_terms : MethodName := ⟨RX8, "terms", "(II)I"⟩
abbrev cX8_term : ByteArray := prog_1_method_12_code
def yX8_term : MethodName := ⟨RX8, "term", "(IIII)I"⟩
abbrev cX8_shown : ByteArray := prog_1_method_13_code
def yX8_shown : MethodName := ⟨RX8, "shown", "(III)I"⟩
abbrev cX8_value : ByteArray := prog_1_method_14_code
def yX8_value : MethodName := ⟨RX8, "value", "(II)I"⟩
abbrev cX8_why : ByteArray := prog_1_method_15_code
def yX8_why : MethodName := ⟨RX8, "why", "(II)I"⟩
abbrev cX8_deep : ByteArray := prog_1_method_16_code
def yX8_deep : MethodName := ⟨RX8, "deep", "(II)I"⟩
abbrev cX8_users : ByteArray := prog_1_method_17_code
def yX8_users : MethodName := ⟨RX8, "users", "(II)I"⟩
abbrev cX8_count : ByteArray := prog_1_method_18_code
def yX8_count : MethodName := ⟨RX8, "count", "(I)I"⟩
abbrev cX8_told : ByteArray := prog_1_method_19_code
def yX8_told : MethodName := ⟨RX8, "told", "(I)I"⟩
abbrev cX8_digest : ByteArray := prog_1_method_20_code
def yX8_digest : MethodName := ⟨RX8, "digest", "()J"⟩
abbrev cX8_digestWith : ByteArray := prog_1_method_21_code
def yX8_digestWith : MethodName := ⟨RX8, "digestWith", "(JII)J"⟩
abbrev cX8_refused : ByteArray := prog_1_method_22_code
def yX8_refused : MethodName := ⟨RX8, "refused", "(I)I"⟩
abbrev cX8_leaveState : ByteArray := prog_1_method_23_code
def yX8_leaveState : MethodName := ⟨RX8, "leaveState", "()V"⟩
abbrev cX8_isWithin : ByteArray := prog_1_method_24_code
def yX8_isWithin : MethodName := ⟨RX8, "isWithin", "(III)Z"⟩
abbrev cX8_isPlace : ByteArray := prog_1_method_25_code
def yX8_isPlace : MethodName := ⟨RX8, "isPlace", "(II)Z"⟩
abbrev cX8_isArea : ByteArray := prog_1_method_26_code
def yX8_isArea : MethodName := ⟨RX8, "isArea", "(IIII)Z"⟩
abbrev cX8_isCell : ByteArray := prog_1_method_27_code
def yX8_isCell : MethodName := ⟨RX8, "isCell", "(I)Z"⟩
abbrev cX8_cellAt : ByteArray := prog_1_method_28_code
def yX8_cellAt : MethodName := ⟨RX8, "cellAt", "(II)I"⟩
abbrev cX8_columnOf : ByteArray := prog_1_method_29_code
def yX8_columnOf : MethodName := ⟨RX8, "columnOf", "(I)I"⟩
abbrev cX8_rowOf : ByteArray := prog_1_method_30_code
def yX8_rowOf : MethodName := ⟨RX8, "rowOf", "(I)I"⟩
abbrev cX8_axisOf : ByteArray := prog_1_method_31_code
def yX8_axisOf : MethodName := ⟨RX8, "axisOf", "(I)I"⟩
def RX9 : String := "SheetRefsModel"
def TX9 : u_T := fun k => match k with
  | 0 => ("SheetRefsModel", "now", "[I", true)
  | 1 => ("SheetRefsModel", "aside", "[I", true)
  | 2 => ("SheetRefsModel", "past", "[I", true)
  | 3 => ("SheetRefsModel", "states", "I", false)
  | 4 => ("SheetRefsModel", "refused", "[I", true)
  | 5 => ("SheetRefsModel", "text", "[I", true)
  | 6 => ("SheetRefsModel", "bytes", "I", false)
  | 7 => ("SheetRefsModel", "read", "[I", true)
  | 8 => ("SheetRefsModel", "spot", "I", false)
  | 9 => ("SheetRefsModel", "wrongAt", "I", false)
  | 10 => ("SheetRefsModel", "written", "[I", true)
  | 11 => ("SheetRefsModel", "length", "I", false)
  | 12 => ("SheetRefsModel", "isKnown", "[I", true)
  | 13 => ("SheetRefsModel", "values", "[I", true)
  | 14 => ("SheetRefsModel", "asked", "[I", true)
  | 15 => ("SheetRefsModel", "termAt", "[I", true)
  | 16 => ("SheetRefsModel", "cellAt", "[I", true)
  | 17 => ("SheetRefsModel", "sums", "[I", true)
  | 18 => ("SheetRefsModel", "depth", "I", false)
  | 19 => ("SheetRefsModel", "fault", "I", false)
  | 20 => ("SheetRefsModel", "faultCell", "I", false)
  | 21 => ("SheetRefsModel", "faultDeep", "I", false)
  | _ => ("SheetRefsModel", "hash", "J", false)
def tyX9 : Nat → FieldType := fun k => match k with
  | 0 => .array .int
  | 1 => .array .int
  | 2 => .array .int
  | 3 => .int
  | 4 => .array .int
  | 5 => .array .int
  | 6 => .int
  | 7 => .array .int
  | 8 => .int
  | 9 => .int
  | 10 => .array .int
  | 11 => .int
  | 12 => .array .int
  | 13 => .array .int
  | 14 => .array .int
  | 15 => .array .int
  | 16 => .array .int
  | 17 => .array .int
  | 18 => .int
  | 19 => .int
  | 20 => .int
  | 21 => .int
  | _ => .long
abbrev wsX90 : List Cond := u_ws RX9 TX9 23
theorem nmX9 : ∀ a, a < 23 → ∀ b, b < 23 → a ≠ b → (TX9 a).2.1 ≠ (TX9 b).2.1 := by decide +kernel
theorem tyX9_ok : ∀ k, k < 23 → parseFieldDescriptor (TX9 k).2.2.1 = some (tyX9 k) := by decide +kernel
abbrev cX9_init : ByteArray := prog_11_method_1_code
def yX9_init : MethodName := ⟨RX9, "<init>", "()V"⟩
abbrev cX9_in : ByteArray := prog_11_method_3_code
def yX9_in : MethodName := ⟨RX9, "in", "(III)Z"⟩
abbrev cX9_bad : ByteArray := prog_11_method_4_code
def yX9_bad : MethodName := ⟨RX9, "bad", "()I"⟩
abbrev cX9_laysAside : ByteArray := prog_11_method_5_code
def yX9_laysAside : MethodName := ⟨RX9, "laysAside", "()V"⟩
abbrev cX9_remembers : ByteArray := prog_11_method_6_code
def yX9_remembers : MethodName := ⟨RX9, "remembers", "()V"⟩
abbrev cX9_back : ByteArray := prog_11_method_7_code
def yX9_back : MethodName := ⟨RX9, "back", "()I"⟩
abbrev cX9_isCell : ByteArray := prog_11_method_8_code
def yX9_isCell : MethodName := ⟨RX9, "isCell", "(II)Z"⟩
abbrev cX9_placeOf : ByteArray := prog_11_method_9_code
def yX9_placeOf : MethodName := ⟨RX9, "placeOf", "(II)I"⟩
abbrev cX9_termPlace : ByteArray := prog_11_method_10_code
def yX9_termPlace : MethodName := ⟨RX9, "termPlace", "(II)I"⟩
abbrev cX9_breaks : ByteArray := prog_11_method_11_code
def yX9_breaks : MethodName := ⟨RX9, "breaks", "(I)V"⟩
abbrev cX9_empty : ByteArray := prog_11_method_12_code
def yX9_empty : MethodName := ⟨RX9, "empty", "(I)V"⟩
abbrev cX9_takes : ByteArray := prog_11_method_13_code
def yX9_takes : MethodName := ⟨RX9, "takes", "(II)V"⟩
abbrev cX9_filled : ByteArray := prog_11_method_14_code
def yX9_filled : MethodName := ⟨RX9, "filled", "()I"⟩
abbrev cX9_sorts : ByteArray := prog_11_method_15_code
def yX9_sorts : MethodName := ⟨RX9, "sorts", "([IIIII)V"⟩
abbrev cX9_blanks : ByteArray := prog_11_method_16_code
def yX9_blanks : MethodName := ⟨RX9, "blanks", "()V"⟩
abbrev cX9_isAt : ByteArray := prog_11_method_17_code
def yX9_isAt : MethodName := ⟨RX9, "isAt", "(II)Z"⟩
abbrev cX9_fails : ByteArray := prog_11_method_18_code
def yX9_fails : MethodName := ⟨RX9, "fails", "()Z"⟩
abbrev cX9_takesNumber : ByteArray := prog_11_method_19_code
def yX9_takesNumber : MethodName := ⟨RX9, "takesNumber", "(I)Z"⟩
abbrev cX9_dollar : ByteArray := prog_11_method_20_code
def yX9_dollar : MethodName := ⟨RX9, "dollar", "(I)I"⟩
abbrev cX9_takesPlace : ByteArray := prog_11_method_21_code
def yX9_takesPlace : MethodName := ⟨RX9, "takesPlace", "(III)Z"⟩
abbrev cX9_takesTerm : ByteArray := prog_11_method_22_code
def yX9_takesTerm : MethodName := ⟨RX9, "takesTerm", "(I)Z"⟩
abbrev cX9_isRead : ByteArray := prog_11_method_23_code
def yX9_isRead : MethodName := ⟨RX9, "isRead", "()Z"⟩
abbrev cX9_type : ByteArray := prog_11_method_24_code
def yX9_type : MethodName := ⟨RX9, "type", "(I)I"⟩
abbrev cX9_clear : ByteArray := prog_11_method_25_code
def yX9_clear : MethodName := ⟨RX9, "clear", "()I"⟩
abbrev cX9_put : ByteArray := prog_11_method_26_code
def yX9_put : MethodName := ⟨RX9, "put", "(II)I"⟩
abbrev cX9_empties : ByteArray := prog_11_method_27_code
def yX9_empties : MethodName := ⟨RX9, "empties", "(II)I"⟩
abbrev cX9_cellBy : ByteArray := prog_11_method_28_code
def yX9_cellBy : MethodName := ⟨RX9, "cellBy", "(III)I"⟩
abbrev cX9_lineBehind : ByteArray := prog_11_method_29_code
def yX9_lineBehind : MethodName := ⟨RX9, "lineBehind", "(III)I"⟩
abbrev cX9_shiftsCells : ByteArray := prog_11_method_30_code
def yX9_shiftsCells : MethodName := ⟨RX9, "shiftsCells", "(III)V"⟩
abbrev cX9_shiftsPlace : ByteArray := prog_11_method_31_code
def yX9_shiftsPlace : MethodName := ⟨RX9, "shiftsPlace", "(IIII)V"⟩
abbrev cX9_shiftsBlock : ByteArray := prog_11_method_32_code
def yX9_shiftsBlock : MethodName := ⟨RX9, "shiftsBlock", "(IIII)V"⟩
abbrev cX9_shifts : ByteArray := prog_11_method_33_code
def yX9_shifts : MethodName := ⟨RX9, "shifts", "(III)V"⟩
abbrev cX9_wouldLose : ByteArray := prog_11_method_34_code
def yX9_wouldLose : MethodName := ⟨RX9, "wouldLose", "(III)Z"⟩
abbrev cX9_comes : ByteArray := prog_11_method_35_code
def yX9_comes : MethodName := ⟨RX9, "comes", "(III)I"⟩
abbrev cX9_goes : ByteArray := prog_11_method_36_code
def yX9_goes : MethodName := ⟨RX9, "goes", "(III)I"⟩
abbrev cX9_isWithin : ByteArray := prog_11_method_37_code
def yX9_isWithin : MethodName := ⟨RX9, "isWithin", "(IIII)Z"⟩
abbrev cX9_liesIn : ByteArray := prog_11_method_38_code
def yX9_liesIn : MethodName := ⟨RX9, "liesIn", "(IIIII)Z"⟩
abbrev cX9_pushes : ByteArray := prog_11_method_39_code
def yX9_pushes : MethodName := ⟨RX9, "pushes", "(III)V"⟩
abbrev cX9_moves : ByteArray := prog_11_method_40_code
def yX9_moves : MethodName := ⟨RX9, "moves", "(IIIIII)I"⟩
abbrev cX9_goesOn : ByteArray := prog_11_method_41_code
def yX9_goesOn : MethodName := ⟨RX9, "goesOn", "(III)V"⟩
abbrev cX9_copies : ByteArray := prog_11_method_42_code
def yX9_copies : MethodName := ⟨RX9, "copies", "(IIIIII)I"⟩
abbrev cX9_terms : ByteArray := prog_11_method_43_code
def yX9_terms : MethodName := ⟨RX9, "terms", "(II)I"⟩
abbrev cX9_term : ByteArray := prog_11_method_44_code
def yX9_term : MethodName := ⟨RX9, "term", "(IIII)I"⟩
abbrev cX9_writes : ByteArray := prog_11_method_45_code
def yX9_writes : MethodName := ⟨RX9, "writes", "(I)V"⟩
abbrev cX9_writesPlace : ByteArray := prog_11_method_46_code
def yX9_writesPlace : MethodName := ⟨RX9, "writesPlace", "(III)V"⟩
abbrev cX9_writesNumber : ByteArray := prog_11_method_47_code
def yX9_writesNumber : MethodName := ⟨RX9, "writesNumber", "(I)V"⟩
abbrev cX9_writesTerm : ByteArray := prog_11_method_48_code
def yX9_writesTerm : MethodName := ⟨RX9, "writesTerm", "(I)V"⟩
abbrev cX9_shown : ByteArray := prog_11_method_49_code
def yX9_shown : MethodName := ⟨RX9, "shown", "(III)I"⟩
abbrev cX9_meets : ByteArray := prog_11_method_50_code
def yX9_meets : MethodName := ⟨RX9, "meets", "(II)V"⟩
abbrev cX9_adds : ByteArray := prog_11_method_51_code
def yX9_adds : MethodName := ⟨RX9, "adds", "(I)V"⟩
abbrev cX9_asks : ByteArray := prog_11_method_52_code
def yX9_asks : MethodName := ⟨RX9, "asks", "(I)V"⟩
abbrev cX9_asksOfBlock : ByteArray := prog_11_method_53_code
def yX9_asksOfBlock : MethodName := ⟨RX9, "asksOfBlock", "(II)V"⟩
abbrev cX9_goesOnAsking : ByteArray := prog_11_method_54_code
def yX9_goesOnAsking : MethodName := ⟨RX9, "goesOnAsking", "()V"⟩
abbrev cX9_finds : ByteArray := prog_11_method_55_code
def yX9_finds : MethodName := ⟨RX9, "finds", "(I)V"⟩
abbrev cX9_valueOf : ByteArray := prog_11_method_56_code
def yX9_valueOf : MethodName := ⟨RX9, "valueOf", "(I)I"⟩
abbrev cX9_whyOf : ByteArray := prog_11_method_57_code
def yX9_whyOf : MethodName := ⟨RX9, "whyOf", "(I)I"⟩
abbrev cX9_deepOf : ByteArray := prog_11_method_58_code
def yX9_deepOf : MethodName := ⟨RX9, "deepOf", "(I)I"⟩
abbrev cX9_value : ByteArray := prog_11_method_59_code
def yX9_value : MethodName := ⟨RX9, "value", "(II)I"⟩
abbrev cX9_why : ByteArray := prog_11_method_60_code
def yX9_why : MethodName := ⟨RX9, "why", "(II)I"⟩
abbrev cX9_deep : ByteArray := prog_11_method_61_code
def yX9_deep : MethodName := ⟨RX9, "deep", "(II)I"⟩
abbrev cX9_refersTo : ByteArray := prog_11_method_62_code
def yX9_refersTo : MethodName := ⟨RX9, "refersTo", "(III)Z"⟩
abbrev cX9_users : ByteArray := prog_11_method_63_code
def yX9_users : MethodName := ⟨RX9, "users", "(II)I"⟩
abbrev cX9_countOf : ByteArray := prog_11_method_64_code
def yX9_countOf : MethodName := ⟨RX9, "countOf", "(I)I"⟩
abbrev cX9_count : ByteArray := prog_11_method_65_code
def yX9_count : MethodName := ⟨RX9, "count", "(I)I"⟩
abbrev cX9_toldOf : ByteArray := prog_11_method_66_code
def yX9_toldOf : MethodName := ⟨RX9, "toldOf", "(I)I"⟩
abbrev cX9_told : ByteArray := prog_11_method_67_code
def yX9_told : MethodName := ⟨RX9, "told", "(I)I"⟩
abbrev cX9_mix : ByteArray := prog_11_method_68_code
def yX9_mix : MethodName := ⟨RX9, "mix", "(J)V"⟩
abbrev cX9_digest : ByteArray := prog_11_method_69_code
def yX9_digest : MethodName := ⟨RX9, "digest", "()J"⟩
def RJ9 : String := "java/lang/Math"
abbrev cJ9_max_7cf53 : ByteArray := prog_12_method_65_code
def yJ9_max_7cf53 : MethodName := ⟨RJ9, "max", "(II)I"⟩
abbrev cJ9_min_7cf53 : ByteArray := prog_12_method_69_code
def yJ9_min_7cf53 : MethodName := ⟨RJ9, "min", "(II)I"⟩
def RJ10 : String := "java/lang/System"
def RJ7 : String := "java/util/Arrays"
abbrev cJ7_fill_53178 : ByteArray := prog_14_method_103_code
def yJ7_fill_53178 : MethodName := ⟨RJ7, "fill", "([II)V"⟩
def RL : String := "SheetRefsLaw"
abbrev cL_law : ByteArray := code
def yL_law : MethodName := ⟨RL, "law", "([I)Z"⟩
abbrev vwCl : List vw_C := [(RX0, TX0, 4), (RX1, TX1, 2), (RX2, TX2, 3), (RX3, TX3, 3), (RX4, TX4, 2), (RX6, TX6, 2), (RX7, TX7, 9), (RX8, TX8, 9), (RX9, TX9, 23)]
def goodT : List Cond := lw_tbl.filter goodWord
theorem gtI {w : Cond} (i : Nat) (h : lw_tbl[i]? = some w) (hg : goodWord w = true) : w ∈ goodT := List.mem_filter.mpr ⟨List.mem_of_getElem? h, hg⟩
def isNestW : Cond → Bool := fun w => match w with
  | .methodLinkNest _ _ _ _ => true
  | _ => false
def nestT : List Cond := lw_tbl.filter isNestW
theorem ntI {w : Cond} (i : Nat) (h : lw_tbl[i]? = some w) (hg : isNestW w = true) : w ∈ nestT := List.mem_filter.mpr ⟨List.mem_of_getElem? h, hg⟩
theorem k_0 : Cond.selects "SheetRefs" yX8_refused yX8_refused ∈ goodT := gtI 0 (by decide +kernel) (by decide +kernel)
theorem k_1 : Cond.selects "SheetRefs$Reader" yX3_readTerm yX3_readTerm ∈ goodT := gtI 1 (by decide +kernel) (by decide +kernel)
theorem k_2 : Cond.selects "SheetRefs$Reader" yX3_next yX3_next ∈ goodT := gtI 2 (by decide +kernel) (by decide +kernel)
theorem k_3 : Cond.selects "SheetRefs$Reader" yX3_readNumber yX3_readNumber ∈ goodT := gtI 3 (by decide +kernel) (by decide +kernel)
theorem k_4 : Cond.selects "SheetRefs$Reader" yX3_takes yX3_takes ∈ goodT := gtI 4 (by decide +kernel) (by decide +kernel)
theorem k_5 : Cond.selects "SheetRefs$Reader" yX3_readReference yX3_readReference ∈ goodT := gtI 5 (by decide +kernel) (by decide +kernel)
theorem k_6 : Cond.selects "SheetRefs$Reader" yX3_readPlace yX3_readPlace ∈ goodT := gtI 6 (by decide +kernel) (by decide +kernel)
theorem k_7 : Cond.selects "SheetRefs" yX8_leaveState yX8_leaveState ∈ goodT := gtI 7 (by decide +kernel) (by decide +kernel)
theorem k_8 : Cond.selects "SheetRefs$Sheet" yX4_lookAhead yX4_lookAhead ∈ goodT := gtI 8 (by decide +kernel) (by decide +kernel)
theorem k_9 : Cond.selects "SheetRefs$Sheet" yX4_takeAlong yX4_takeAlong ∈ goodT := gtI 9 (by decide +kernel) (by decide +kernel)
theorem k_10 : Cond.selects "SheetRefs$Sheet" yX4_takeTo yX4_takeTo ∈ goodT := gtI 10 (by decide +kernel) (by decide +kernel)
theorem k_11 : Cond.selects "SheetRefs$Sheet" yX4_spreadTerms yX4_spreadTerms ∈ goodT := gtI 11 (by decide +kernel) (by decide +kernel)
theorem k_12 : Cond.selects "SheetRefs$Page" yX1_add yX1_add ∈ goodT := gtI 12 (by decide +kernel) (by decide +kernel)
theorem k_13 : Cond.selects "SheetRefs$Page" yX1_writeTerm yX1_writeTerm ∈ goodT := gtI 13 (by decide +kernel) (by decide +kernel)
theorem k_14 : Cond.selects "SheetRefs$Page" yX1_writeNumber yX1_writeNumber ∈ goodT := gtI 14 (by decide +kernel) (by decide +kernel)
theorem k_15 : Cond.selects "SheetRefs$Page" yX1_writePlace yX1_writePlace ∈ goodT := gtI 15 (by decide +kernel) (by decide +kernel)
theorem k_16 : Cond.selects "SheetRefs$Values" yX7_ask yX7_ask ∈ goodT := gtI 16 (by decide +kernel) (by decide +kernel)
theorem k_17 : Cond.selects "SheetRefs$Values" yX7_meet yX7_meet ∈ goodT := gtI 17 (by decide +kernel) (by decide +kernel)
theorem k_18 : Cond.selects "SheetRefs$Values" yX7_addTerm yX7_addTerm ∈ goodT := gtI 18 (by decide +kernel) (by decide +kernel)
theorem k_19 : Cond.selects "SheetRefs$Values" yX7_add yX7_add ∈ goodT := gtI 19 (by decide +kernel) (by decide +kernel)
theorem k_20 : Cond.selects "SheetRefs" yX8_digestWith yX8_digestWith ∈ goodT := gtI 20 (by decide +kernel) (by decide +kernel)
theorem k_21 : Cond.selects "SheetRefsModel" yX9_bad yX9_bad ∈ goodT := gtI 21 (by decide +kernel) (by decide +kernel)
theorem k_22 : Cond.selects "SheetRefsModel" yX9_isRead yX9_isRead ∈ goodT := gtI 22 (by decide +kernel) (by decide +kernel)
theorem k_23 : Cond.selects "SheetRefsModel" yX9_blanks yX9_blanks ∈ goodT := gtI 23 (by decide +kernel) (by decide +kernel)
theorem k_24 : Cond.selects "SheetRefsModel" yX9_takesTerm yX9_takesTerm ∈ goodT := gtI 24 (by decide +kernel) (by decide +kernel)
theorem k_25 : Cond.selects "SheetRefsModel" yX9_isAt yX9_isAt ∈ goodT := gtI 25 (by decide +kernel) (by decide +kernel)
theorem k_26 : Cond.selects "SheetRefsModel" yX9_takesNumber yX9_takesNumber ∈ goodT := gtI 26 (by decide +kernel) (by decide +kernel)
theorem k_27 : Cond.selects "SheetRefsModel" yX9_fails yX9_fails ∈ goodT := gtI 27 (by decide +kernel) (by decide +kernel)
theorem k_28 : Cond.selects "SheetRefsModel" yX9_takesPlace yX9_takesPlace ∈ goodT := gtI 28 (by decide +kernel) (by decide +kernel)
theorem k_29 : Cond.selects "SheetRefsModel" yX9_dollar yX9_dollar ∈ goodT := gtI 29 (by decide +kernel) (by decide +kernel)
theorem k_30 : Cond.selects "SheetRefsModel" yX9_laysAside yX9_laysAside ∈ goodT := gtI 30 (by decide +kernel) (by decide +kernel)
theorem k_31 : Cond.selects "SheetRefsModel" yX9_remembers yX9_remembers ∈ goodT := gtI 31 (by decide +kernel) (by decide +kernel)
theorem k_32 : Cond.selects "SheetRefsModel" yX9_empty yX9_empty ∈ goodT := gtI 32 (by decide +kernel) (by decide +kernel)
theorem k_33 : Cond.selects "SheetRefsModel" yX9_wouldLose yX9_wouldLose ∈ goodT := gtI 33 (by decide +kernel) (by decide +kernel)
theorem k_34 : Cond.selects "SheetRefsModel" yX9_shifts yX9_shifts ∈ goodT := gtI 34 (by decide +kernel) (by decide +kernel)
theorem k_35 : Cond.selects "SheetRefsModel" yX9_shiftsCells yX9_shiftsCells ∈ goodT := gtI 35 (by decide +kernel) (by decide +kernel)
theorem k_36 : Cond.selects "SheetRefsModel" yX9_takes yX9_takes ∈ goodT := gtI 36 (by decide +kernel) (by decide +kernel)
theorem k_37 : Cond.selects "SheetRefsModel" yX9_shiftsPlace yX9_shiftsPlace ∈ goodT := gtI 37 (by decide +kernel) (by decide +kernel)
theorem k_38 : Cond.selects "SheetRefsModel" yX9_breaks yX9_breaks ∈ goodT := gtI 38 (by decide +kernel) (by decide +kernel)
theorem k_39 : Cond.selects "SheetRefsModel" yX9_shiftsBlock yX9_shiftsBlock ∈ goodT := gtI 39 (by decide +kernel) (by decide +kernel)
theorem k_40 : Cond.selects "SheetRefsModel" yX9_filled yX9_filled ∈ goodT := gtI 40 (by decide +kernel) (by decide +kernel)
theorem k_41 : Cond.selects "SheetRefsModel" yX9_liesIn yX9_liesIn ∈ goodT := gtI 41 (by decide +kernel) (by decide +kernel)
theorem k_42 : Cond.selects "SheetRefsModel" yX9_pushes yX9_pushes ∈ goodT := gtI 42 (by decide +kernel) (by decide +kernel)
theorem k_43 : Cond.selects "SheetRefsModel" yX9_goesOn yX9_goesOn ∈ goodT := gtI 43 (by decide +kernel) (by decide +kernel)
theorem k_44 : Cond.selects "SheetRefsModel" yX9_writes yX9_writes ∈ goodT := gtI 44 (by decide +kernel) (by decide +kernel)
theorem k_45 : Cond.selects "SheetRefsModel" yX9_writesTerm yX9_writesTerm ∈ goodT := gtI 45 (by decide +kernel) (by decide +kernel)
theorem k_46 : Cond.selects "SheetRefsModel" yX9_writesNumber yX9_writesNumber ∈ goodT := gtI 46 (by decide +kernel) (by decide +kernel)
theorem k_47 : Cond.selects "SheetRefsModel" yX9_writesPlace yX9_writesPlace ∈ goodT := gtI 47 (by decide +kernel) (by decide +kernel)
theorem k_48 : Cond.selects "SheetRefsModel" yX9_valueOf yX9_valueOf ∈ goodT := gtI 48 (by decide +kernel) (by decide +kernel)
theorem k_49 : Cond.selects "SheetRefsModel" yX9_finds yX9_finds ∈ goodT := gtI 49 (by decide +kernel) (by decide +kernel)
theorem k_50 : Cond.selects "SheetRefsModel" yX9_asks yX9_asks ∈ goodT := gtI 50 (by decide +kernel) (by decide +kernel)
theorem k_51 : Cond.selects "SheetRefsModel" yX9_meets yX9_meets ∈ goodT := gtI 51 (by decide +kernel) (by decide +kernel)
theorem k_52 : Cond.selects "SheetRefsModel" yX9_adds yX9_adds ∈ goodT := gtI 52 (by decide +kernel) (by decide +kernel)
theorem k_53 : Cond.selects "SheetRefsModel" yX9_goesOnAsking yX9_goesOnAsking ∈ goodT := gtI 53 (by decide +kernel) (by decide +kernel)
theorem k_54 : Cond.selects "SheetRefsModel" yX9_asksOfBlock yX9_asksOfBlock ∈ goodT := gtI 54 (by decide +kernel) (by decide +kernel)
theorem k_55 : Cond.selects "SheetRefsModel" yX9_whyOf yX9_whyOf ∈ goodT := gtI 55 (by decide +kernel) (by decide +kernel)
theorem k_56 : Cond.selects "SheetRefsModel" yX9_deepOf yX9_deepOf ∈ goodT := gtI 56 (by decide +kernel) (by decide +kernel)
theorem k_57 : Cond.selects "SheetRefsModel" yX9_refersTo yX9_refersTo ∈ goodT := gtI 57 (by decide +kernel) (by decide +kernel)
theorem k_58 : Cond.selects "SheetRefsModel" yX9_countOf yX9_countOf ∈ goodT := gtI 58 (by decide +kernel) (by decide +kernel)
theorem k_59 : Cond.selects "SheetRefsModel" yX9_toldOf yX9_toldOf ∈ goodT := gtI 59 (by decide +kernel) (by decide +kernel)
theorem k_60 : Cond.selects "SheetRefsModel" yX9_mix yX9_mix ∈ goodT := gtI 60 (by decide +kernel) (by decide +kernel)
theorem k_61 : Cond.initialized "SheetRefsLaw" ∈ goodT := gtI 61 (by decide +kernel) (by decide +kernel)
theorem k_62 : Cond.initialized "SheetRefs" ∈ goodT := gtI 62 (by decide +kernel) (by decide +kernel)
theorem k_63 : Cond.initialized "SheetRefs$Text" ∈ goodT := gtI 63 (by decide +kernel) (by decide +kernel)
theorem k_64 : Cond.initialized "SheetRefs$Reader" ∈ goodT := gtI 64 (by decide +kernel) (by decide +kernel)
theorem k_65 : Cond.initialized "SheetRefs$Sheet" ∈ goodT := gtI 65 (by decide +kernel) (by decide +kernel)
theorem k_66 : Cond.initialized "SheetRefs$Past" ∈ goodT := gtI 66 (by decide +kernel) (by decide +kernel)
theorem k_67 : Cond.initialized "SheetRefs$Values" ∈ goodT := gtI 67 (by decide +kernel) (by decide +kernel)
theorem k_68 : Cond.initialized "java/util/Arrays" ∈ goodT := gtI 68 (by decide +kernel) (by decide +kernel)
theorem k_69 : Cond.initialized "SheetRefs$Page" ∈ goodT := gtI 69 (by decide +kernel) (by decide +kernel)
theorem k_70 : Cond.initialized "SheetRefsModel" ∈ goodT := gtI 70 (by decide +kernel) (by decide +kernel)
theorem k_71 : Cond.initialized "SheetRefs$Term" ∈ goodT := gtI 71 (by decide +kernel) (by decide +kernel)
theorem k_72 : Cond.initialized "java/lang/System" ∈ goodT := gtI 72 (by decide +kernel) (by decide +kernel)
theorem k_73 : Cond.initialized "java/lang/Math" ∈ goodT := gtI 73 (by decide +kernel) (by decide +kernel)
theorem k_74 : Cond.initialized "SheetRefs$Area" ∈ goodT := gtI 74 (by decide +kernel) (by decide +kernel)
theorem k_75 : Cond.classLink "SheetRefsLaw" 7 "SheetRefs" ∈ goodT := gtI 75 (by decide +kernel) (by decide +kernel)
theorem k_76 : Cond.instantiable "SheetRefs" 9 ∈ goodT := gtI 76 (by decide +kernel) (by decide +kernel)
theorem k_77 : Cond.methodLink "SheetRefsLaw" 9 yX8_init ∈ goodT := gtI 77 (by decide +kernel) (by decide +kernel)
theorem k_78 : Cond.instanceMethod yX8_init ∈ goodT := gtI 78 (by decide +kernel) (by decide +kernel)
theorem k_79 : Cond.code yX8_init cX8_init 1 none ∈ goodT := gtI 79 (by decide +kernel) (by decide +kernel)
theorem k_80 : Cond.methodLink "SheetRefs" 3 objectInit ∈ goodT := gtI 80 (by decide +kernel) (by decide +kernel)
theorem k_81 : Cond.instanceMethod objectInit ∈ goodT := gtI 81 (by decide +kernel) (by decide +kernel)
theorem k_82 : Cond.code objectInit ⟨#[0xb1]⟩ 1 none ∈ goodT := gtI 82 (by decide +kernel) (by decide +kernel)
theorem k_83 : Cond.classLink "SheetRefs" 9 "SheetRefs$Text" ∈ goodT := gtI 83 (by decide +kernel) (by decide +kernel)
theorem k_84 : Cond.instantiable "SheetRefs$Text" 2 ∈ goodT := gtI 84 (by decide +kernel) (by decide +kernel)
theorem k_85 : Cond.methodLinkNest "SheetRefs" 11 yX6_init "SheetRefs" ∈ nestT := ntI 85 (by decide +kernel) rfl
theorem k_86 : Cond.instanceMethod yX6_init ∈ goodT := gtI 86 (by decide +kernel) (by decide +kernel)
theorem k_87 : Cond.code yX6_init cX6_init 1 none ∈ goodT := gtI 87 (by decide +kernel) (by decide +kernel)
theorem k_88 : Cond.methodLink "SheetRefs$Text" 1 objectInit ∈ goodT := gtI 88 (by decide +kernel) (by decide +kernel)
theorem k_89 : Cond.fieldLink "SheetRefs$Text" 9 "SheetRefs$Text" "bytes" "[I" ∈ goodT := gtI 89 (by decide +kernel) (by decide +kernel)
theorem k_90 : Cond.fieldLink "SheetRefs$Text" 13 "SheetRefs$Text" "length" "I" ∈ goodT := gtI 90 (by decide +kernel) (by decide +kernel)
theorem k_91 : Cond.fieldLink "SheetRefs$Reader" 78 "SheetRefs$Text" "length" "I" ∈ goodT := gtI 91 (by decide +kernel) (by decide +kernel)
theorem k_92 : Cond.fieldLink "SheetRefs" 214 "SheetRefs$Text" "length" "I" ∈ goodT := gtI 92 (by decide +kernel) (by decide +kernel)
theorem k_93 : Cond.laysFinal "SheetRefs$Text" "SheetRefs$Text" "bytes" "[I" ∈ goodT := gtI 93 (by decide +kernel) (by decide +kernel)
theorem k_95 : Cond.lays "SheetRefs$Text" "SheetRefs$Text" "length" "I" ∈ goodT := gtI 95 (by decide +kernel) (by decide +kernel)
theorem k_98 : Cond.arrayClass .int ∈ goodT := gtI 98 (by decide +kernel) (by decide +kernel)
theorem k_99 : Cond.classLink "SheetRefs" 16 "SheetRefs$Reader" ∈ goodT := gtI 99 (by decide +kernel) (by decide +kernel)
theorem k_100 : Cond.instantiable "SheetRefs$Reader" 3 ∈ goodT := gtI 100 (by decide +kernel) (by decide +kernel)
theorem k_101 : Cond.methodLink "SheetRefs" 18 yX3_init ∈ goodT := gtI 101 (by decide +kernel) (by decide +kernel)
theorem k_102 : Cond.instanceMethod yX3_init ∈ goodT := gtI 102 (by decide +kernel) (by decide +kernel)
theorem k_103 : Cond.code yX3_init cX3_init 2 none ∈ goodT := gtI 103 (by decide +kernel) (by decide +kernel)
theorem k_104 : Cond.methodLink "SheetRefs$Reader" 3 objectInit ∈ goodT := gtI 104 (by decide +kernel) (by decide +kernel)
theorem k_105 : Cond.fieldLink "SheetRefs$Reader" 15 "SheetRefs$Reader" "text" "LSheetRefs$Text;" ∈ goodT := gtI 105 (by decide +kernel) (by decide +kernel)
theorem k_106 : Cond.fieldLink "SheetRefs$Reader" 9 "SheetRefs$Reader" "found" "[I" ∈ goodT := gtI 106 (by decide +kernel) (by decide +kernel)
theorem k_107 : Cond.fieldLink "SheetRefs" 91 "SheetRefs$Reader" "found" "[I" ∈ goodT := gtI 107 (by decide +kernel) (by decide +kernel)
theorem k_108 : Cond.fieldLink "SheetRefs$Reader" 27 "SheetRefs$Reader" "place" "I" ∈ goodT := gtI 108 (by decide +kernel) (by decide +kernel)
theorem k_109 : Cond.laysFinal "SheetRefs$Reader" "SheetRefs$Reader" "text" "LSheetRefs$Text;" ∈ goodT := gtI 109 (by decide +kernel) (by decide +kernel)
theorem k_111 : Cond.laysFinal "SheetRefs$Reader" "SheetRefs$Reader" "found" "[I" ∈ goodT := gtI 111 (by decide +kernel) (by decide +kernel)
theorem k_113 : Cond.lays "SheetRefs$Reader" "SheetRefs$Reader" "place" "I" ∈ goodT := gtI 113 (by decide +kernel) (by decide +kernel)
theorem k_116 : Cond.classLink "SheetRefs" 25 "SheetRefs$Sheet" ∈ goodT := gtI 116 (by decide +kernel) (by decide +kernel)
theorem k_117 : Cond.instantiable "SheetRefs$Sheet" 2 ∈ goodT := gtI 117 (by decide +kernel) (by decide +kernel)
theorem k_118 : Cond.methodLinkNest "SheetRefs" 27 yX4_init "SheetRefs" ∈ nestT := ntI 118 (by decide +kernel) rfl
theorem k_119 : Cond.instanceMethod yX4_init ∈ goodT := gtI 119 (by decide +kernel) (by decide +kernel)
theorem k_120 : Cond.code yX4_init cX4_init 1 none ∈ goodT := gtI 120 (by decide +kernel) (by decide +kernel)
theorem k_121 : Cond.methodLink "SheetRefs$Sheet" 3 objectInit ∈ goodT := gtI 121 (by decide +kernel) (by decide +kernel)
theorem k_122 : Cond.fieldLink "SheetRefs$Sheet" 9 "SheetRefs$Sheet" "slots" "[I" ∈ goodT := gtI 122 (by decide +kernel) (by decide +kernel)
theorem k_123 : Cond.fieldLink "SheetRefs$Past" 15 "SheetRefs$Sheet" "slots" "[I" ∈ goodT := gtI 123 (by decide +kernel) (by decide +kernel)
theorem k_124 : Cond.fieldLink "SheetRefs$Sheet" 15 "SheetRefs$Sheet" "ahead" "[I" ∈ goodT := gtI 124 (by decide +kernel) (by decide +kernel)
theorem k_125 : Cond.laysFinal "SheetRefs$Sheet" "SheetRefs$Sheet" "slots" "[I" ∈ goodT := gtI 125 (by decide +kernel) (by decide +kernel)
theorem k_127 : Cond.laysFinal "SheetRefs$Sheet" "SheetRefs$Sheet" "ahead" "[I" ∈ goodT := gtI 127 (by decide +kernel) (by decide +kernel)
theorem k_130 : Cond.classLink "SheetRefs" 32 "SheetRefs$Past" ∈ goodT := gtI 130 (by decide +kernel) (by decide +kernel)
theorem k_131 : Cond.instantiable "SheetRefs$Past" 3 ∈ goodT := gtI 131 (by decide +kernel) (by decide +kernel)
theorem k_132 : Cond.methodLinkNest "SheetRefs" 34 yX2_init "SheetRefs" ∈ nestT := ntI 132 (by decide +kernel) rfl
theorem k_133 : Cond.instanceMethod yX2_init ∈ goodT := gtI 133 (by decide +kernel) (by decide +kernel)
theorem k_134 : Cond.code yX2_init cX2_init 1 none ∈ goodT := gtI 134 (by decide +kernel) (by decide +kernel)
theorem k_135 : Cond.methodLink "SheetRefs$Past" 3 objectInit ∈ goodT := gtI 135 (by decide +kernel) (by decide +kernel)
theorem k_136 : Cond.fieldLink "SheetRefs$Past" 11 "SheetRefs$Past" "states" "[I" ∈ goodT := gtI 136 (by decide +kernel) (by decide +kernel)
theorem k_137 : Cond.fieldLink "SheetRefs$Past" 20 "SheetRefs$Past" "next" "I" ∈ goodT := gtI 137 (by decide +kernel) (by decide +kernel)
theorem k_138 : Cond.fieldLink "SheetRefs$Past" 30 "SheetRefs$Past" "size" "I" ∈ goodT := gtI 138 (by decide +kernel) (by decide +kernel)
theorem k_139 : Cond.fieldLink "SheetRefs" 137 "SheetRefs$Past" "size" "I" ∈ goodT := gtI 139 (by decide +kernel) (by decide +kernel)
theorem k_140 : Cond.laysFinal "SheetRefs$Past" "SheetRefs$Past" "states" "[I" ∈ goodT := gtI 140 (by decide +kernel) (by decide +kernel)
theorem k_142 : Cond.lays "SheetRefs$Past" "SheetRefs$Past" "next" "I" ∈ goodT := gtI 142 (by decide +kernel) (by decide +kernel)
theorem k_144 : Cond.lays "SheetRefs$Past" "SheetRefs$Past" "size" "I" ∈ goodT := gtI 144 (by decide +kernel) (by decide +kernel)
theorem k_147 : Cond.classLink "SheetRefs" 39 "SheetRefs$Values" ∈ goodT := gtI 147 (by decide +kernel) (by decide +kernel)
theorem k_148 : Cond.instantiable "SheetRefs$Values" 9 ∈ goodT := gtI 148 (by decide +kernel) (by decide +kernel)
theorem k_149 : Cond.methodLink "SheetRefs" 41 yX7_init ∈ goodT := gtI 149 (by decide +kernel) (by decide +kernel)
theorem k_150 : Cond.instanceMethod yX7_init ∈ goodT := gtI 150 (by decide +kernel) (by decide +kernel)
theorem k_151 : Cond.code yX7_init cX7_init 2 none ∈ goodT := gtI 151 (by decide +kernel) (by decide +kernel)
theorem k_152 : Cond.methodLink "SheetRefs$Values" 3 objectInit ∈ goodT := gtI 152 (by decide +kernel) (by decide +kernel)
theorem k_153 : Cond.methodLink "SheetRefs$Values" 32 yJ7_fill_53178 ∈ goodT := gtI 153 (by decide +kernel) (by decide +kernel)
theorem k_154 : Cond.static yJ7_fill_53178 ∈ goodT := gtI 154 (by decide +kernel) (by decide +kernel)
theorem k_155 : Cond.code yJ7_fill_53178 cJ7_fill_53178 4 none ∈ goodT := gtI 155 (by decide +kernel) (by decide +kernel)
theorem k_156 : Cond.fieldLink "SheetRefs$Values" 28 "SheetRefs$Values" "sheet" "LSheetRefs$Sheet;" ∈ goodT := gtI 156 (by decide +kernel) (by decide +kernel)
theorem k_157 : Cond.fieldLink "SheetRefs$Values" 9 "SheetRefs$Values" "faults" "[I" ∈ goodT := gtI 157 (by decide +kernel) (by decide +kernel)
theorem k_158 : Cond.fieldLink "SheetRefs" 175 "SheetRefs$Values" "faults" "[I" ∈ goodT := gtI 158 (by decide +kernel) (by decide +kernel)
theorem k_159 : Cond.fieldLink "SheetRefs$Values" 15 "SheetRefs$Values" "sums" "[I" ∈ goodT := gtI 159 (by decide +kernel) (by decide +kernel)
theorem k_160 : Cond.fieldLink "SheetRefs" 178 "SheetRefs$Values" "sums" "[I" ∈ goodT := gtI 160 (by decide +kernel) (by decide +kernel)
theorem k_161 : Cond.fieldLink "SheetRefs$Values" 18 "SheetRefs$Values" "faultCells" "[I" ∈ goodT := gtI 161 (by decide +kernel) (by decide +kernel)
theorem k_162 : Cond.fieldLink "SheetRefs" 181 "SheetRefs$Values" "faultCells" "[I" ∈ goodT := gtI 162 (by decide +kernel) (by decide +kernel)
theorem k_163 : Cond.fieldLink "SheetRefs$Values" 21 "SheetRefs$Values" "faultDepths" "[I" ∈ goodT := gtI 163 (by decide +kernel) (by decide +kernel)
theorem k_164 : Cond.fieldLink "SheetRefs" 190 "SheetRefs$Values" "faultDepths" "[I" ∈ goodT := gtI 164 (by decide +kernel) (by decide +kernel)
theorem k_165 : Cond.fieldLink "SheetRefs$Values" 24 "SheetRefs$Values" "asked" "[Z" ∈ goodT := gtI 165 (by decide +kernel) (by decide +kernel)
theorem k_166 : Cond.fieldLink "SheetRefs$Values" 42 "SheetRefs$Values" "met" "I" ∈ goodT := gtI 166 (by decide +kernel) (by decide +kernel)
theorem k_167 : Cond.fieldLink "SheetRefs$Values" 50 "SheetRefs$Values" "metAt" "I" ∈ goodT := gtI 167 (by decide +kernel) (by decide +kernel)
theorem k_168 : Cond.fieldLink "SheetRefs$Values" 53 "SheetRefs$Values" "metDepth" "I" ∈ goodT := gtI 168 (by decide +kernel) (by decide +kernel)
theorem k_169 : Cond.laysFinal "SheetRefs$Values" "SheetRefs$Values" "sheet" "LSheetRefs$Sheet;" ∈ goodT := gtI 169 (by decide +kernel) (by decide +kernel)
theorem k_171 : Cond.laysFinal "SheetRefs$Values" "SheetRefs$Values" "faults" "[I" ∈ goodT := gtI 171 (by decide +kernel) (by decide +kernel)
theorem k_173 : Cond.laysFinal "SheetRefs$Values" "SheetRefs$Values" "sums" "[I" ∈ goodT := gtI 173 (by decide +kernel) (by decide +kernel)
theorem k_175 : Cond.laysFinal "SheetRefs$Values" "SheetRefs$Values" "faultCells" "[I" ∈ goodT := gtI 175 (by decide +kernel) (by decide +kernel)
theorem k_177 : Cond.laysFinal "SheetRefs$Values" "SheetRefs$Values" "faultDepths" "[I" ∈ goodT := gtI 177 (by decide +kernel) (by decide +kernel)
theorem k_179 : Cond.laysFinal "SheetRefs$Values" "SheetRefs$Values" "asked" "[Z" ∈ goodT := gtI 179 (by decide +kernel) (by decide +kernel)
theorem k_181 : Cond.lays "SheetRefs$Values" "SheetRefs$Values" "met" "I" ∈ goodT := gtI 181 (by decide +kernel) (by decide +kernel)
theorem k_183 : Cond.lays "SheetRefs$Values" "SheetRefs$Values" "metAt" "I" ∈ goodT := gtI 183 (by decide +kernel) (by decide +kernel)
theorem k_185 : Cond.lays "SheetRefs$Values" "SheetRefs$Values" "metDepth" "I" ∈ goodT := gtI 185 (by decide +kernel) (by decide +kernel)
theorem k_188 : Cond.arrayClass .boolean ∈ goodT := gtI 188 (by decide +kernel) (by decide +kernel)
theorem k_189 : Cond.classLink "SheetRefs" 48 "SheetRefs$Page" ∈ goodT := gtI 189 (by decide +kernel) (by decide +kernel)
theorem k_190 : Cond.instantiable "SheetRefs$Page" 2 ∈ goodT := gtI 190 (by decide +kernel) (by decide +kernel)
theorem k_191 : Cond.methodLinkNest "SheetRefs" 50 yX1_init "SheetRefs" ∈ nestT := ntI 191 (by decide +kernel) rfl
theorem k_192 : Cond.instanceMethod yX1_init ∈ goodT := gtI 192 (by decide +kernel) (by decide +kernel)
theorem k_193 : Cond.code yX1_init cX1_init 1 none ∈ goodT := gtI 193 (by decide +kernel) (by decide +kernel)
theorem k_194 : Cond.methodLink "SheetRefs$Page" 3 objectInit ∈ goodT := gtI 194 (by decide +kernel) (by decide +kernel)
theorem k_195 : Cond.fieldLink "SheetRefs$Page" 11 "SheetRefs$Page" "letters" "[I" ∈ goodT := gtI 195 (by decide +kernel) (by decide +kernel)
theorem k_196 : Cond.fieldLink "SheetRefs$Page" 15 "SheetRefs$Page" "length" "I" ∈ goodT := gtI 196 (by decide +kernel) (by decide +kernel)
theorem k_197 : Cond.laysFinal "SheetRefs$Page" "SheetRefs$Page" "letters" "[I" ∈ goodT := gtI 197 (by decide +kernel) (by decide +kernel)
theorem k_199 : Cond.lays "SheetRefs$Page" "SheetRefs$Page" "length" "I" ∈ goodT := gtI 199 (by decide +kernel) (by decide +kernel)
theorem k_202 : Cond.fieldLink "SheetRefs" 12 "SheetRefs" "text" "LSheetRefs$Text;" ∈ goodT := gtI 202 (by decide +kernel) (by decide +kernel)
theorem k_203 : Cond.fieldLink "SheetRefs" 21 "SheetRefs" "reader" "LSheetRefs$Reader;" ∈ goodT := gtI 203 (by decide +kernel) (by decide +kernel)
theorem k_204 : Cond.fieldLink "SheetRefs" 28 "SheetRefs" "sheet" "LSheetRefs$Sheet;" ∈ goodT := gtI 204 (by decide +kernel) (by decide +kernel)
theorem k_205 : Cond.fieldLink "SheetRefs" 35 "SheetRefs" "past" "LSheetRefs$Past;" ∈ goodT := gtI 205 (by decide +kernel) (by decide +kernel)
theorem k_206 : Cond.fieldLink "SheetRefs" 44 "SheetRefs" "values" "LSheetRefs$Values;" ∈ goodT := gtI 206 (by decide +kernel) (by decide +kernel)
theorem k_207 : Cond.fieldLink "SheetRefs" 51 "SheetRefs" "page" "LSheetRefs$Page;" ∈ goodT := gtI 207 (by decide +kernel) (by decide +kernel)
theorem k_208 : Cond.fieldLink "SheetRefs" 205 "SheetRefs" "bads" "I" ∈ goodT := gtI 208 (by decide +kernel) (by decide +kernel)
theorem k_209 : Cond.fieldLink "SheetRefs" 208 "SheetRefs" "nos" "I" ∈ goodT := gtI 209 (by decide +kernel) (by decide +kernel)
theorem k_210 : Cond.fieldLink "SheetRefs" 211 "SheetRefs" "fulls" "I" ∈ goodT := gtI 210 (by decide +kernel) (by decide +kernel)
theorem k_211 : Cond.laysFinal "SheetRefs" "SheetRefs" "text" "LSheetRefs$Text;" ∈ goodT := gtI 211 (by decide +kernel) (by decide +kernel)
theorem k_213 : Cond.laysFinal "SheetRefs" "SheetRefs" "reader" "LSheetRefs$Reader;" ∈ goodT := gtI 213 (by decide +kernel) (by decide +kernel)
theorem k_215 : Cond.laysFinal "SheetRefs" "SheetRefs" "sheet" "LSheetRefs$Sheet;" ∈ goodT := gtI 215 (by decide +kernel) (by decide +kernel)
theorem k_217 : Cond.laysFinal "SheetRefs" "SheetRefs" "past" "LSheetRefs$Past;" ∈ goodT := gtI 217 (by decide +kernel) (by decide +kernel)
theorem k_219 : Cond.laysFinal "SheetRefs" "SheetRefs" "values" "LSheetRefs$Values;" ∈ goodT := gtI 219 (by decide +kernel) (by decide +kernel)
theorem k_221 : Cond.laysFinal "SheetRefs" "SheetRefs" "page" "LSheetRefs$Page;" ∈ goodT := gtI 221 (by decide +kernel) (by decide +kernel)
theorem k_223 : Cond.lays "SheetRefs" "SheetRefs" "bads" "I" ∈ goodT := gtI 223 (by decide +kernel) (by decide +kernel)
theorem k_225 : Cond.lays "SheetRefs" "SheetRefs" "nos" "I" ∈ goodT := gtI 225 (by decide +kernel) (by decide +kernel)
theorem k_227 : Cond.lays "SheetRefs" "SheetRefs" "fulls" "I" ∈ goodT := gtI 227 (by decide +kernel) (by decide +kernel)
theorem k_230 : Cond.methodLink "SheetRefsLaw" 13 yX8_type ∈ goodT := gtI 230 (by decide +kernel) (by decide +kernel)
theorem k_231 : Cond.instanceMethod yX8_type ∈ goodT := gtI 231 (by decide +kernel) (by decide +kernel)
theorem k_232 : Cond.selects "SheetRefs" yX8_type yX8_type ∈ goodT := gtI 232 (by decide +kernel) (by decide +kernel)
theorem k_233 : Cond.code yX8_type cX8_type 2 (some .int) ∈ goodT := gtI 233 (by decide +kernel) (by decide +kernel)
theorem k_234 : Cond.methodLink "SheetRefs" 55 yX8_isWithin ∈ goodT := gtI 234 (by decide +kernel) (by decide +kernel)
theorem k_235 : Cond.static yX8_isWithin ∈ goodT := gtI 235 (by decide +kernel) (by decide +kernel)
theorem k_236 : Cond.code yX8_isWithin cX8_isWithin 3 (some .boolean) ∈ goodT := gtI 236 (by decide +kernel) (by decide +kernel)
theorem k_237 : Cond.methodLink "SheetRefs" 59 yX8_refused ∈ goodT := gtI 237 (by decide +kernel) (by decide +kernel)
theorem k_239 : Cond.instanceMethod yX8_refused ∈ goodT := gtI 239 (by decide +kernel) (by decide +kernel)
theorem k_240 : Cond.code yX8_refused cX8_refused 2 (some .int) ∈ goodT := gtI 240 (by decide +kernel) (by decide +kernel)
theorem k_241 : Cond.methodLink "SheetRefs" 63 yX6_isFull ∈ goodT := gtI 241 (by decide +kernel) (by decide +kernel)
theorem k_242 : Cond.instanceMethod yX6_isFull ∈ goodT := gtI 242 (by decide +kernel) (by decide +kernel)
theorem k_243 : Cond.selects "SheetRefs$Text" yX6_isFull yX6_isFull ∈ goodT := gtI 243 (by decide +kernel) (by decide +kernel)
theorem k_244 : Cond.code yX6_isFull cX6_isFull 1 (some .boolean) ∈ goodT := gtI 244 (by decide +kernel) (by decide +kernel)
theorem k_245 : Cond.methodLink "SheetRefs" 67 yX6_add ∈ goodT := gtI 245 (by decide +kernel) (by decide +kernel)
theorem k_246 : Cond.instanceMethod yX6_add ∈ goodT := gtI 246 (by decide +kernel) (by decide +kernel)
theorem k_247 : Cond.selects "SheetRefs$Text" yX6_add yX6_add ∈ goodT := gtI 247 (by decide +kernel) (by decide +kernel)
theorem k_248 : Cond.code yX6_add cX6_add 2 (some .int) ∈ goodT := gtI 248 (by decide +kernel) (by decide +kernel)
theorem k_249 : Cond.methodLink "SheetRefsLaw" 18 yX8_clear ∈ goodT := gtI 249 (by decide +kernel) (by decide +kernel)
theorem k_250 : Cond.instanceMethod yX8_clear ∈ goodT := gtI 250 (by decide +kernel) (by decide +kernel)
theorem k_251 : Cond.selects "SheetRefs" yX8_clear yX8_clear ∈ goodT := gtI 251 (by decide +kernel) (by decide +kernel)
theorem k_252 : Cond.code yX8_clear cX8_clear 1 (some .int) ∈ goodT := gtI 252 (by decide +kernel) (by decide +kernel)
theorem k_253 : Cond.methodLink "SheetRefs" 70 yX6_drop ∈ goodT := gtI 253 (by decide +kernel) (by decide +kernel)
theorem k_254 : Cond.instanceMethod yX6_drop ∈ goodT := gtI 254 (by decide +kernel) (by decide +kernel)
theorem k_255 : Cond.selects "SheetRefs$Text" yX6_drop yX6_drop ∈ goodT := gtI 255 (by decide +kernel) (by decide +kernel)
theorem k_256 : Cond.code yX6_drop cX6_drop 2 (some .int) ∈ goodT := gtI 256 (by decide +kernel) (by decide +kernel)
theorem k_257 : Cond.methodLink "SheetRefsLaw" 23 yX8_put ∈ goodT := gtI 257 (by decide +kernel) (by decide +kernel)
theorem k_258 : Cond.instanceMethod yX8_put ∈ goodT := gtI 258 (by decide +kernel) (by decide +kernel)
theorem k_259 : Cond.selects "SheetRefs" yX8_put yX8_put ∈ goodT := gtI 259 (by decide +kernel) (by decide +kernel)
theorem k_260 : Cond.code yX8_put cX8_put 4 (some .int) ∈ goodT := gtI 260 (by decide +kernel) (by decide +kernel)
theorem k_261 : Cond.methodLink "SheetRefs" 74 yX8_isPlace ∈ goodT := gtI 261 (by decide +kernel) (by decide +kernel)
theorem k_262 : Cond.static yX8_isPlace ∈ goodT := gtI 262 (by decide +kernel) (by decide +kernel)
theorem k_263 : Cond.code yX8_isPlace cX8_isPlace 2 (some .boolean) ∈ goodT := gtI 263 (by decide +kernel) (by decide +kernel)
theorem k_264 : Cond.methodLink "SheetRefs" 78 yX3_read ∈ goodT := gtI 264 (by decide +kernel) (by decide +kernel)
theorem k_265 : Cond.instanceMethod yX3_read ∈ goodT := gtI 265 (by decide +kernel) (by decide +kernel)
theorem k_266 : Cond.selects "SheetRefs$Reader" yX3_read yX3_read ∈ goodT := gtI 266 (by decide +kernel) (by decide +kernel)
theorem k_267 : Cond.code yX3_read cX3_read 4 (some .int) ∈ goodT := gtI 267 (by decide +kernel) (by decide +kernel)
theorem k_268 : Cond.methodLink "SheetRefs$Reader" 21 yJ7_fill_53178 ∈ goodT := gtI 268 (by decide +kernel) (by decide +kernel)
theorem k_269 : Cond.methodLink "SheetRefs$Reader" 31 yX3_readTerm ∈ goodT := gtI 269 (by decide +kernel) (by decide +kernel)
theorem k_271 : Cond.instanceMethod yX3_readTerm ∈ goodT := gtI 271 (by decide +kernel) (by decide +kernel)
theorem k_272 : Cond.code yX3_readTerm cX3_readTerm 1 (some .int) ∈ goodT := gtI 272 (by decide +kernel) (by decide +kernel)
theorem k_273 : Cond.methodLink "SheetRefs$Reader" 39 yX3_next ∈ goodT := gtI 273 (by decide +kernel) (by decide +kernel)
theorem k_275 : Cond.instanceMethod yX3_next ∈ goodT := gtI 275 (by decide +kernel) (by decide +kernel)
theorem k_276 : Cond.code yX3_next cX3_next 1 (some .int) ∈ goodT := gtI 276 (by decide +kernel) (by decide +kernel)
theorem k_277 : Cond.methodLink "SheetRefs$Reader" 53 yX6_byteAt ∈ goodT := gtI 277 (by decide +kernel) (by decide +kernel)
theorem k_278 : Cond.instanceMethod yX6_byteAt ∈ goodT := gtI 278 (by decide +kernel) (by decide +kernel)
theorem k_279 : Cond.selects "SheetRefs$Text" yX6_byteAt yX6_byteAt ∈ goodT := gtI 279 (by decide +kernel) (by decide +kernel)
theorem k_280 : Cond.code yX6_byteAt cX6_byteAt 2 (some .int) ∈ goodT := gtI 280 (by decide +kernel) (by decide +kernel)
theorem k_281 : Cond.methodLink "SheetRefs$Reader" 44 yX3_isFigure ∈ goodT := gtI 281 (by decide +kernel) (by decide +kernel)
theorem k_282 : Cond.static yX3_isFigure ∈ goodT := gtI 282 (by decide +kernel) (by decide +kernel)
theorem k_283 : Cond.code yX3_isFigure cX3_isFigure 1 (some .boolean) ∈ goodT := gtI 283 (by decide +kernel) (by decide +kernel)
theorem k_284 : Cond.methodLink "SheetRefs$Reader" 47 yX3_readNumber ∈ goodT := gtI 284 (by decide +kernel) (by decide +kernel)
theorem k_286 : Cond.instanceMethod yX3_readNumber ∈ goodT := gtI 286 (by decide +kernel) (by decide +kernel)
theorem k_287 : Cond.code yX3_readNumber cX3_readNumber 3 (some .int) ∈ goodT := gtI 287 (by decide +kernel) (by decide +kernel)
theorem k_288 : Cond.methodLink "SheetRefs$Reader" 57 yX5_ofNumber ∈ goodT := gtI 288 (by decide +kernel) (by decide +kernel)
theorem k_289 : Cond.static yX5_ofNumber ∈ goodT := gtI 289 (by decide +kernel) (by decide +kernel)
theorem k_290 : Cond.code yX5_ofNumber cX5_ofNumber 1 (some .int) ∈ goodT := gtI 290 (by decide +kernel) (by decide +kernel)
theorem k_291 : Cond.methodLink "SheetRefs$Reader" 35 yX3_takes ∈ goodT := gtI 291 (by decide +kernel) (by decide +kernel)
theorem k_293 : Cond.instanceMethod yX3_takes ∈ goodT := gtI 293 (by decide +kernel) (by decide +kernel)
theorem k_294 : Cond.code yX3_takes cX3_takes 2 (some .boolean) ∈ goodT := gtI 294 (by decide +kernel) (by decide +kernel)
theorem k_295 : Cond.methodLink "SheetRefs$Reader" 50 yX3_readReference ∈ goodT := gtI 295 (by decide +kernel) (by decide +kernel)
theorem k_297 : Cond.instanceMethod yX3_readReference ∈ goodT := gtI 297 (by decide +kernel) (by decide +kernel)
theorem k_298 : Cond.code yX3_readReference cX3_readReference 3 (some .int) ∈ goodT := gtI 298 (by decide +kernel) (by decide +kernel)
theorem k_299 : Cond.methodLink "SheetRefs$Reader" 60 yX3_readPlace ∈ goodT := gtI 299 (by decide +kernel) (by decide +kernel)
theorem k_301 : Cond.instanceMethod yX3_readPlace ∈ goodT := gtI 301 (by decide +kernel) (by decide +kernel)
theorem k_302 : Cond.code yX3_readPlace cX3_readPlace 4 (some .int) ∈ goodT := gtI 302 (by decide +kernel) (by decide +kernel)
theorem k_303 : Cond.methodLink "SheetRefs$Reader" 67 yX3_columnNamed ∈ goodT := gtI 303 (by decide +kernel) (by decide +kernel)
theorem k_304 : Cond.static yX3_columnNamed ∈ goodT := gtI 304 (by decide +kernel) (by decide +kernel)
theorem k_305 : Cond.code yX3_columnNamed cX3_columnNamed 2 (some .int) ∈ goodT := gtI 305 (by decide +kernel) (by decide +kernel)
theorem k_306 : Cond.methodLinkNest "SheetRefs$Reader" 70 yX8_isWithin "SheetRefs" ∈ nestT := ntI 306 (by decide +kernel) rfl
theorem k_307 : Cond.methodLink "SheetRefs$Reader" 74 yX5_ofPlace ∈ goodT := gtI 307 (by decide +kernel) (by decide +kernel)
theorem k_308 : Cond.static yX5_ofPlace ∈ goodT := gtI 308 (by decide +kernel) (by decide +kernel)
theorem k_309 : Cond.code yX5_ofPlace cX5_ofPlace 4 (some .int) ∈ goodT := gtI 309 (by decide +kernel) (by decide +kernel)
theorem k_310 : Cond.methodLink "SheetRefs$Term" 11 yX5_with ∈ goodT := gtI 310 (by decide +kernel) (by decide +kernel)
theorem k_311 : Cond.static yX5_with ∈ goodT := gtI 311 (by decide +kernel) (by decide +kernel)
theorem k_312 : Cond.code yX5_with cX5_with 4 (some .int) ∈ goodT := gtI 312 (by decide +kernel) (by decide +kernel)
theorem k_313 : Cond.methodLink "SheetRefs$Reader" 63 yX5_ofBlock ∈ goodT := gtI 313 (by decide +kernel) (by decide +kernel)
theorem k_314 : Cond.static yX5_ofBlock ∈ goodT := gtI 314 (by decide +kernel) (by decide +kernel)
theorem k_315 : Cond.code yX5_ofBlock cX5_ofBlock 5 (some .int) ∈ goodT := gtI 315 (by decide +kernel) (by decide +kernel)
theorem k_316 : Cond.methodLink "SheetRefs$Term" 15 yX5_fixed ∈ goodT := gtI 316 (by decide +kernel) (by decide +kernel)
theorem k_317 : Cond.static yX5_fixed ∈ goodT := gtI 317 (by decide +kernel) (by decide +kernel)
theorem k_318 : Cond.code yX5_fixed cX5_fixed 1 (some .int) ∈ goodT := gtI 318 (by decide +kernel) (by decide +kernel)
theorem k_319 : Cond.methodLink "SheetRefs$Term" 19 yX5_coordinate ∈ goodT := gtI 319 (by decide +kernel) (by decide +kernel)
theorem k_320 : Cond.static yX5_coordinate ∈ goodT := gtI 320 (by decide +kernel) (by decide +kernel)
theorem k_321 : Cond.code yX5_coordinate cX5_coordinate 2 (some .int) ∈ goodT := gtI 321 (by decide +kernel) (by decide +kernel)
theorem k_322 : Cond.methodLink "SheetRefs$Term" 23 yX5_ordered ∈ goodT := gtI 322 (by decide +kernel) (by decide +kernel)
theorem k_323 : Cond.static yX5_ordered ∈ goodT := gtI 323 (by decide +kernel) (by decide +kernel)
theorem k_324 : Cond.code yX5_ordered cX5_ordered 3 (some .int) ∈ goodT := gtI 324 (by decide +kernel) (by decide +kernel)
theorem k_325 : Cond.methodLink "SheetRefs$Term" 51 yX5_crossed ∈ goodT := gtI 325 (by decide +kernel) (by decide +kernel)
theorem k_326 : Cond.static yX5_crossed ∈ goodT := gtI 326 (by decide +kernel) (by decide +kernel)
theorem k_327 : Cond.code yX5_crossed cX5_crossed 7 (some .int) ∈ goodT := gtI 327 (by decide +kernel) (by decide +kernel)
theorem k_328 : Cond.methodLink "SheetRefs" 81 yX3_fault ∈ goodT := gtI 328 (by decide +kernel) (by decide +kernel)
theorem k_329 : Cond.instanceMethod yX3_fault ∈ goodT := gtI 329 (by decide +kernel) (by decide +kernel)
theorem k_330 : Cond.selects "SheetRefs$Reader" yX3_fault yX3_fault ∈ goodT := gtI 330 (by decide +kernel) (by decide +kernel)
theorem k_331 : Cond.code yX3_fault cX3_fault 1 (some .int) ∈ goodT := gtI 331 (by decide +kernel) (by decide +kernel)
theorem k_332 : Cond.methodLink "SheetRefs" 84 yX8_leaveState ∈ goodT := gtI 332 (by decide +kernel) (by decide +kernel)
theorem k_334 : Cond.instanceMethod yX8_leaveState ∈ goodT := gtI 334 (by decide +kernel) (by decide +kernel)
theorem k_335 : Cond.code yX8_leaveState cX8_leaveState 1 none ∈ goodT := gtI 335 (by decide +kernel) (by decide +kernel)
theorem k_336 : Cond.methodLink "SheetRefs" 244 yX2_keep ∈ goodT := gtI 336 (by decide +kernel) (by decide +kernel)
theorem k_337 : Cond.instanceMethod yX2_keep ∈ goodT := gtI 337 (by decide +kernel) (by decide +kernel)
theorem k_338 : Cond.selects "SheetRefs$Past" yX2_keep yX2_keep ∈ goodT := gtI 338 (by decide +kernel) (by decide +kernel)
theorem k_339 : Cond.code yX2_keep cX2_keep 2 none ∈ goodT := gtI 339 (by decide +kernel) (by decide +kernel)
theorem k_340 : Cond.methodLink "SheetRefs$Past" 24 arraycopyName ∈ goodT := gtI 340 (by decide +kernel) (by decide +kernel)
theorem k_341 : Cond.static arraycopyName ∈ goodT := gtI 341 (by decide +kernel) (by decide +kernel)
theorem k_342 : Cond.native arraycopyName ∈ goodT := gtI 342 (by decide +kernel) (by decide +kernel)
theorem k_343 : Cond.methodLink "SheetRefs$Past" 33 Lib.Math.min.name ∈ goodT := gtI 343 (by decide +kernel) (by decide +kernel)
theorem k_344 : Cond.static Lib.Math.min.name ∈ goodT := gtI 344 (by decide +kernel) (by decide +kernel)
theorem k_345 : Cond.code Lib.Math.min.name cJ9_min_7cf53 2 (some .int) ∈ goodT := gtI 345 (by decide +kernel) (by decide +kernel)
theorem k_346 : Cond.methodLink "SheetRefs" 144 yX7_forget ∈ goodT := gtI 346 (by decide +kernel) (by decide +kernel)
theorem k_347 : Cond.instanceMethod yX7_forget ∈ goodT := gtI 347 (by decide +kernel) (by decide +kernel)
theorem k_348 : Cond.selects "SheetRefs$Values" yX7_forget yX7_forget ∈ goodT := gtI 348 (by decide +kernel) (by decide +kernel)
theorem k_349 : Cond.code yX7_forget cX7_forget 1 none ∈ goodT := gtI 349 (by decide +kernel) (by decide +kernel)
theorem k_350 : Cond.methodLink "SheetRefs" 87 yX8_cellAt ∈ goodT := gtI 350 (by decide +kernel) (by decide +kernel)
theorem k_351 : Cond.static yX8_cellAt ∈ goodT := gtI 351 (by decide +kernel) (by decide +kernel)
theorem k_352 : Cond.code yX8_cellAt cX8_cellAt 2 (some .int) ∈ goodT := gtI 352 (by decide +kernel) (by decide +kernel)
theorem k_353 : Cond.methodLink "SheetRefs" 95 yX4_fill ∈ goodT := gtI 353 (by decide +kernel) (by decide +kernel)
theorem k_354 : Cond.instanceMethod yX4_fill ∈ goodT := gtI 354 (by decide +kernel) (by decide +kernel)
theorem k_355 : Cond.selects "SheetRefs$Sheet" yX4_fill yX4_fill ∈ goodT := gtI 355 (by decide +kernel) (by decide +kernel)
theorem k_356 : Cond.code yX4_fill cX4_fill 3 none ∈ goodT := gtI 356 (by decide +kernel) (by decide +kernel)
theorem k_357 : Cond.methodLinkNest "SheetRefs$Sheet" 18 yX8_isCell "SheetRefs" ∈ nestT := ntI 357 (by decide +kernel) rfl
theorem k_358 : Cond.static yX8_isCell ∈ goodT := gtI 358 (by decide +kernel) (by decide +kernel)
theorem k_359 : Cond.code yX8_isCell cX8_isCell 1 (some .boolean) ∈ goodT := gtI 359 (by decide +kernel) (by decide +kernel)
theorem k_360 : Cond.methodLink "SheetRefs$Sheet" 32 arraycopyName ∈ goodT := gtI 360 (by decide +kernel) (by decide +kernel)
theorem k_361 : Cond.methodLink "SheetRefsLaw" 28 yX8_empties ∈ goodT := gtI 361 (by decide +kernel) (by decide +kernel)
theorem k_362 : Cond.instanceMethod yX8_empties ∈ goodT := gtI 362 (by decide +kernel) (by decide +kernel)
theorem k_363 : Cond.selects "SheetRefs" yX8_empties yX8_empties ∈ goodT := gtI 363 (by decide +kernel) (by decide +kernel)
theorem k_364 : Cond.code yX8_empties cX8_empties 4 (some .int) ∈ goodT := gtI 364 (by decide +kernel) (by decide +kernel)
theorem k_365 : Cond.methodLink "SheetRefs" 99 yX4_sizeOf ∈ goodT := gtI 365 (by decide +kernel) (by decide +kernel)
theorem k_366 : Cond.instanceMethod yX4_sizeOf ∈ goodT := gtI 366 (by decide +kernel) (by decide +kernel)
theorem k_367 : Cond.selects "SheetRefs$Sheet" yX4_sizeOf yX4_sizeOf ∈ goodT := gtI 367 (by decide +kernel) (by decide +kernel)
theorem k_368 : Cond.code yX4_sizeOf cX4_sizeOf 3 (some .int) ∈ goodT := gtI 368 (by decide +kernel) (by decide +kernel)
theorem k_369 : Cond.methodLink "SheetRefs$Sheet" 28 yX4_termOf ∈ goodT := gtI 369 (by decide +kernel) (by decide +kernel)
theorem k_370 : Cond.instanceMethod yX4_termOf ∈ goodT := gtI 370 (by decide +kernel) (by decide +kernel)
theorem k_371 : Cond.selects "SheetRefs$Sheet" yX4_termOf yX4_termOf ∈ goodT := gtI 371 (by decide +kernel) (by decide +kernel)
theorem k_372 : Cond.code yX4_termOf cX4_termOf 3 (some .int) ∈ goodT := gtI 372 (by decide +kernel) (by decide +kernel)
theorem k_373 : Cond.methodLinkNest "SheetRefs$Sheet" 22 yX8_isWithin "SheetRefs" ∈ nestT := ntI 373 (by decide +kernel) rfl
theorem k_374 : Cond.methodLink "SheetRefs" 102 yX4_drop ∈ goodT := gtI 374 (by decide +kernel) (by decide +kernel)
theorem k_375 : Cond.instanceMethod yX4_drop ∈ goodT := gtI 375 (by decide +kernel) (by decide +kernel)
theorem k_376 : Cond.selects "SheetRefs$Sheet" yX4_drop yX4_drop ∈ goodT := gtI 376 (by decide +kernel) (by decide +kernel)
theorem k_377 : Cond.code yX4_drop cX4_drop 3 none ∈ goodT := gtI 377 (by decide +kernel) (by decide +kernel)
theorem k_378 : Cond.methodLink "SheetRefsLaw" 32 yX8_comes ∈ goodT := gtI 378 (by decide +kernel) (by decide +kernel)
theorem k_379 : Cond.instanceMethod yX8_comes ∈ goodT := gtI 379 (by decide +kernel) (by decide +kernel)
theorem k_380 : Cond.selects "SheetRefs" yX8_comes yX8_comes ∈ goodT := gtI 380 (by decide +kernel) (by decide +kernel)
theorem k_381 : Cond.code yX8_comes cX8_comes 5 (some .int) ∈ goodT := gtI 381 (by decide +kernel) (by decide +kernel)
theorem k_382 : Cond.methodLink "SheetRefs" 105 yX8_axisOf ∈ goodT := gtI 382 (by decide +kernel) (by decide +kernel)
theorem k_383 : Cond.static yX8_axisOf ∈ goodT := gtI 383 (by decide +kernel) (by decide +kernel)
theorem k_384 : Cond.code yX8_axisOf cX8_axisOf 1 (some .int) ∈ goodT := gtI 384 (by decide +kernel) (by decide +kernel)
theorem k_385 : Cond.methodLink "SheetRefs" 108 yX4_wouldLose ∈ goodT := gtI 385 (by decide +kernel) (by decide +kernel)
theorem k_386 : Cond.instanceMethod yX4_wouldLose ∈ goodT := gtI 386 (by decide +kernel) (by decide +kernel)
theorem k_387 : Cond.selects "SheetRefs$Sheet" yX4_wouldLose yX4_wouldLose ∈ goodT := gtI 387 (by decide +kernel) (by decide +kernel)
theorem k_388 : Cond.code yX4_wouldLose cX4_wouldLose 5 (some .boolean) ∈ goodT := gtI 388 (by decide +kernel) (by decide +kernel)
theorem k_389 : Cond.methodLink "SheetRefs$Sheet" 38 yX4_isEmpty ∈ goodT := gtI 389 (by decide +kernel) (by decide +kernel)
theorem k_390 : Cond.instanceMethod yX4_isEmpty ∈ goodT := gtI 390 (by decide +kernel) (by decide +kernel)
theorem k_391 : Cond.selects "SheetRefs$Sheet" yX4_isEmpty yX4_isEmpty ∈ goodT := gtI 391 (by decide +kernel) (by decide +kernel)
theorem k_392 : Cond.code yX4_isEmpty cX4_isEmpty 2 (some .boolean) ∈ goodT := gtI 392 (by decide +kernel) (by decide +kernel)
theorem k_393 : Cond.methodLink "SheetRefs$Sheet" 41 yX4_lineOf ∈ goodT := gtI 393 (by decide +kernel) (by decide +kernel)
theorem k_394 : Cond.static yX4_lineOf ∈ goodT := gtI 394 (by decide +kernel) (by decide +kernel)
theorem k_395 : Cond.code yX4_lineOf cX4_lineOf 2 (some .int) ∈ goodT := gtI 395 (by decide +kernel) (by decide +kernel)
theorem k_396 : Cond.methodLinkNest "SheetRefs$Sheet" 121 yX8_columnOf "SheetRefs" ∈ nestT := ntI 396 (by decide +kernel) rfl
theorem k_397 : Cond.static yX8_columnOf ∈ goodT := gtI 397 (by decide +kernel) (by decide +kernel)
theorem k_398 : Cond.code yX8_columnOf cX8_columnOf 1 (some .int) ∈ goodT := gtI 398 (by decide +kernel) (by decide +kernel)
theorem k_399 : Cond.methodLinkNest "SheetRefs$Sheet" 124 yX8_rowOf "SheetRefs" ∈ nestT := ntI 399 (by decide +kernel) rfl
theorem k_400 : Cond.static yX8_rowOf ∈ goodT := gtI 400 (by decide +kernel) (by decide +kernel)
theorem k_401 : Cond.code yX8_rowOf cX8_rowOf 1 (some .int) ∈ goodT := gtI 401 (by decide +kernel) (by decide +kernel)
theorem k_402 : Cond.methodLink "SheetRefs$Sheet" 44 yX4_lineAfterComing ∈ goodT := gtI 402 (by decide +kernel) (by decide +kernel)
theorem k_403 : Cond.static yX4_lineAfterComing ∈ goodT := gtI 403 (by decide +kernel) (by decide +kernel)
theorem k_404 : Cond.code yX4_lineAfterComing cX4_lineAfterComing 3 (some .int) ∈ goodT := gtI 404 (by decide +kernel) (by decide +kernel)
theorem k_405 : Cond.methodLink "SheetRefs" 111 yX4_openLines ∈ goodT := gtI 405 (by decide +kernel) (by decide +kernel)
theorem k_406 : Cond.instanceMethod yX4_openLines ∈ goodT := gtI 406 (by decide +kernel) (by decide +kernel)
theorem k_407 : Cond.selects "SheetRefs$Sheet" yX4_openLines yX4_openLines ∈ goodT := gtI 407 (by decide +kernel) (by decide +kernel)
theorem k_408 : Cond.code yX4_openLines cX4_openLines 5 none ∈ goodT := gtI 408 (by decide +kernel) (by decide +kernel)
theorem k_409 : Cond.methodLink "SheetRefs$Sheet" 48 yX4_lookAhead ∈ goodT := gtI 409 (by decide +kernel) (by decide +kernel)
theorem k_411 : Cond.instanceMethod yX4_lookAhead ∈ goodT := gtI 411 (by decide +kernel) (by decide +kernel)
theorem k_412 : Cond.code yX4_lookAhead cX4_lookAhead 1 none ∈ goodT := gtI 412 (by decide +kernel) (by decide +kernel)
theorem k_413 : Cond.methodLink "SheetRefs$Sheet" 51 yJ7_fill_53178 ∈ goodT := gtI 413 (by decide +kernel) (by decide +kernel)
theorem k_414 : Cond.methodLink "SheetRefs$Sheet" 57 yX4_takeAlong ∈ goodT := gtI 414 (by decide +kernel) (by decide +kernel)
theorem k_416 : Cond.instanceMethod yX4_takeAlong ∈ goodT := gtI 416 (by decide +kernel) (by decide +kernel)
theorem k_417 : Cond.code yX4_takeAlong cX4_takeAlong 5 none ∈ goodT := gtI 417 (by decide +kernel) (by decide +kernel)
theorem k_418 : Cond.methodLink "SheetRefs$Sheet" 85 yX4_takeTo ∈ goodT := gtI 418 (by decide +kernel) (by decide +kernel)
theorem k_420 : Cond.instanceMethod yX4_takeTo ∈ goodT := gtI 420 (by decide +kernel) (by decide +kernel)
theorem k_421 : Cond.code yX4_takeTo cX4_takeTo 4 none ∈ goodT := gtI 421 (by decide +kernel) (by decide +kernel)
theorem k_422 : Cond.methodLink "SheetRefs$Sheet" 61 yX5_whenLinesCome ∈ goodT := gtI 422 (by decide +kernel) (by decide +kernel)
theorem k_423 : Cond.static yX5_whenLinesCome ∈ goodT := gtI 423 (by decide +kernel) (by decide +kernel)
theorem k_424 : Cond.code yX5_whenLinesCome cX5_whenLinesCome 7 (some .int) ∈ goodT := gtI 424 (by decide +kernel) (by decide +kernel)
theorem k_425 : Cond.methodLink "SheetRefs$Term" 29 yX5_refers ∈ goodT := gtI 425 (by decide +kernel) (by decide +kernel)
theorem k_426 : Cond.static yX5_refers ∈ goodT := gtI 426 (by decide +kernel) (by decide +kernel)
theorem k_427 : Cond.code yX5_refers cX5_refers 1 (some .boolean) ∈ goodT := gtI 427 (by decide +kernel) (by decide +kernel)
theorem k_428 : Cond.methodLink "SheetRefs$Term" 26 yX5_kind ∈ goodT := gtI 428 (by decide +kernel) (by decide +kernel)
theorem k_429 : Cond.static yX5_kind ∈ goodT := gtI 429 (by decide +kernel) (by decide +kernel)
theorem k_430 : Cond.code yX5_kind cX5_kind 1 (some .int) ∈ goodT := gtI 430 (by decide +kernel) (by decide +kernel)
theorem k_431 : Cond.methodLink "SheetRefs$Term" 33 yX5_greatest ∈ goodT := gtI 431 (by decide +kernel) (by decide +kernel)
theorem k_432 : Cond.static yX5_greatest ∈ goodT := gtI 432 (by decide +kernel) (by decide +kernel)
theorem k_433 : Cond.code yX5_greatest cX5_greatest 2 (some .int) ∈ goodT := gtI 433 (by decide +kernel) (by decide +kernel)
theorem k_434 : Cond.methodLink "SheetRefs$Term" 36 yX5_least ∈ goodT := gtI 434 (by decide +kernel) (by decide +kernel)
theorem k_435 : Cond.static yX5_least ∈ goodT := gtI 435 (by decide +kernel) (by decide +kernel)
theorem k_436 : Cond.code yX5_least cX5_least 2 (some .int) ∈ goodT := gtI 436 (by decide +kernel) (by decide +kernel)
theorem k_437 : Cond.methodLink "SheetRefs$Term" 39 Lib.Math.min.name ∈ goodT := gtI 437 (by decide +kernel) (by decide +kernel)
theorem k_438 : Cond.methodLink "SheetRefs" 115 yX4_filledCells ∈ goodT := gtI 438 (by decide +kernel) (by decide +kernel)
theorem k_439 : Cond.instanceMethod yX4_filledCells ∈ goodT := gtI 439 (by decide +kernel) (by decide +kernel)
theorem k_440 : Cond.selects "SheetRefs$Sheet" yX4_filledCells yX4_filledCells ∈ goodT := gtI 440 (by decide +kernel) (by decide +kernel)
theorem k_441 : Cond.code yX4_filledCells cX4_filledCells 3 (some .int) ∈ goodT := gtI 441 (by decide +kernel) (by decide +kernel)
theorem k_442 : Cond.methodLink "SheetRefsLaw" 37 yX8_goes ∈ goodT := gtI 442 (by decide +kernel) (by decide +kernel)
theorem k_443 : Cond.instanceMethod yX8_goes ∈ goodT := gtI 443 (by decide +kernel) (by decide +kernel)
theorem k_444 : Cond.selects "SheetRefs" yX8_goes yX8_goes ∈ goodT := gtI 444 (by decide +kernel) (by decide +kernel)
theorem k_445 : Cond.code yX8_goes cX8_goes 4 (some .int) ∈ goodT := gtI 445 (by decide +kernel) (by decide +kernel)
theorem k_446 : Cond.methodLink "SheetRefs" 118 yX4_closeLines ∈ goodT := gtI 446 (by decide +kernel) (by decide +kernel)
theorem k_447 : Cond.instanceMethod yX4_closeLines ∈ goodT := gtI 447 (by decide +kernel) (by decide +kernel)
theorem k_448 : Cond.selects "SheetRefs$Sheet" yX4_closeLines yX4_closeLines ∈ goodT := gtI 448 (by decide +kernel) (by decide +kernel)
theorem k_449 : Cond.code yX4_closeLines cX4_closeLines 5 none ∈ goodT := gtI 449 (by decide +kernel) (by decide +kernel)
theorem k_450 : Cond.methodLink "SheetRefs$Sheet" 65 yX4_lineAfterGoing ∈ goodT := gtI 450 (by decide +kernel) (by decide +kernel)
theorem k_451 : Cond.static yX4_lineAfterGoing ∈ goodT := gtI 451 (by decide +kernel) (by decide +kernel)
theorem k_452 : Cond.code yX4_lineAfterGoing cX4_lineAfterGoing 3 (some .int) ∈ goodT := gtI 452 (by decide +kernel) (by decide +kernel)
theorem k_453 : Cond.methodLink "SheetRefs$Sheet" 68 yX5_whenLinesGo ∈ goodT := gtI 453 (by decide +kernel) (by decide +kernel)
theorem k_454 : Cond.static yX5_whenLinesGo ∈ goodT := gtI 454 (by decide +kernel) (by decide +kernel)
theorem k_455 : Cond.code yX5_whenLinesGo cX5_whenLinesGo 9 (some .int) ∈ goodT := gtI 455 (by decide +kernel) (by decide +kernel)
theorem k_456 : Cond.methodLink "SheetRefs$Term" 44 Lib.Math.max.name ∈ goodT := gtI 456 (by decide +kernel) (by decide +kernel)
theorem k_457 : Cond.static Lib.Math.max.name ∈ goodT := gtI 457 (by decide +kernel) (by decide +kernel)
theorem k_458 : Cond.code Lib.Math.max.name cJ9_max_7cf53 2 (some .int) ∈ goodT := gtI 458 (by decide +kernel) (by decide +kernel)
theorem k_459 : Cond.methodLink "SheetRefsLaw" 41 yX8_moves ∈ goodT := gtI 459 (by decide +kernel) (by decide +kernel)
theorem k_460 : Cond.instanceMethod yX8_moves ∈ goodT := gtI 460 (by decide +kernel) (by decide +kernel)
theorem k_461 : Cond.selects "SheetRefs" yX8_moves yX8_moves ∈ goodT := gtI 461 (by decide +kernel) (by decide +kernel)
theorem k_462 : Cond.code yX8_moves cX8_moves 7 (some .int) ∈ goodT := gtI 462 (by decide +kernel) (by decide +kernel)
theorem k_463 : Cond.methodLink "SheetRefs" 121 yX8_isArea ∈ goodT := gtI 463 (by decide +kernel) (by decide +kernel)
theorem k_464 : Cond.static yX8_isArea ∈ goodT := gtI 464 (by decide +kernel) (by decide +kernel)
theorem k_465 : Cond.code yX8_isArea cX8_isArea 4 (some .boolean) ∈ goodT := gtI 465 (by decide +kernel) (by decide +kernel)
theorem k_466 : Cond.classLink "SheetRefs" 125 "SheetRefs$Area" ∈ goodT := gtI 466 (by decide +kernel) (by decide +kernel)
theorem k_467 : Cond.instantiable "SheetRefs$Area" 4 ∈ goodT := gtI 467 (by decide +kernel) (by decide +kernel)
theorem k_468 : Cond.methodLink "SheetRefs" 127 yX0_init ∈ goodT := gtI 468 (by decide +kernel) (by decide +kernel)
theorem k_469 : Cond.instanceMethod yX0_init ∈ goodT := gtI 469 (by decide +kernel) (by decide +kernel)
theorem k_470 : Cond.code yX0_init cX0_init 5 none ∈ goodT := gtI 470 (by decide +kernel) (by decide +kernel)
theorem k_471 : Cond.methodLink "SheetRefs$Area" 3 objectInit ∈ goodT := gtI 471 (by decide +kernel) (by decide +kernel)
theorem k_472 : Cond.fieldLink "SheetRefs$Area" 9 "SheetRefs$Area" "column" "I" ∈ goodT := gtI 472 (by decide +kernel) (by decide +kernel)
theorem k_473 : Cond.fieldLink "SheetRefs$Sheet" 93 "SheetRefs$Area" "column" "I" ∈ goodT := gtI 473 (by decide +kernel) (by decide +kernel)
theorem k_474 : Cond.fieldLink "SheetRefs$Area" 15 "SheetRefs$Area" "row" "I" ∈ goodT := gtI 474 (by decide +kernel) (by decide +kernel)
theorem k_475 : Cond.fieldLink "SheetRefs$Sheet" 97 "SheetRefs$Area" "row" "I" ∈ goodT := gtI 475 (by decide +kernel) (by decide +kernel)
theorem k_476 : Cond.fieldLink "SheetRefs$Area" 18 "SheetRefs$Area" "width" "I" ∈ goodT := gtI 476 (by decide +kernel) (by decide +kernel)
theorem k_477 : Cond.fieldLink "SheetRefs$Area" 21 "SheetRefs$Area" "height" "I" ∈ goodT := gtI 477 (by decide +kernel) (by decide +kernel)
theorem k_478 : Cond.laysFinal "SheetRefs$Area" "SheetRefs$Area" "column" "I" ∈ goodT := gtI 478 (by decide +kernel) (by decide +kernel)
theorem k_480 : Cond.laysFinal "SheetRefs$Area" "SheetRefs$Area" "row" "I" ∈ goodT := gtI 480 (by decide +kernel) (by decide +kernel)
theorem k_482 : Cond.laysFinal "SheetRefs$Area" "SheetRefs$Area" "width" "I" ∈ goodT := gtI 482 (by decide +kernel) (by decide +kernel)
theorem k_484 : Cond.laysFinal "SheetRefs$Area" "SheetRefs$Area" "height" "I" ∈ goodT := gtI 484 (by decide +kernel) (by decide +kernel)
theorem k_487 : Cond.methodLink "SheetRefs" 130 yX4_moveArea ∈ goodT := gtI 487 (by decide +kernel) (by decide +kernel)
theorem k_488 : Cond.instanceMethod yX4_moveArea ∈ goodT := gtI 488 (by decide +kernel) (by decide +kernel)
theorem k_489 : Cond.selects "SheetRefs$Sheet" yX4_moveArea yX4_moveArea ∈ goodT := gtI 489 (by decide +kernel) (by decide +kernel)
theorem k_490 : Cond.code yX4_moveArea cX4_moveArea 6 (some .int) ∈ goodT := gtI 490 (by decide +kernel) (by decide +kernel)
theorem k_491 : Cond.methodLink "SheetRefs$Sheet" 71 yX0_size ∈ goodT := gtI 491 (by decide +kernel) (by decide +kernel)
theorem k_492 : Cond.instanceMethod yX0_size ∈ goodT := gtI 492 (by decide +kernel) (by decide +kernel)
theorem k_493 : Cond.selects "SheetRefs$Area" yX0_size yX0_size ∈ goodT := gtI 493 (by decide +kernel) (by decide +kernel)
theorem k_494 : Cond.code yX0_size cX0_size 1 (some .int) ∈ goodT := gtI 494 (by decide +kernel) (by decide +kernel)
theorem k_495 : Cond.methodLink "SheetRefs$Sheet" 77 yX0_cell ∈ goodT := gtI 495 (by decide +kernel) (by decide +kernel)
theorem k_496 : Cond.instanceMethod yX0_cell ∈ goodT := gtI 496 (by decide +kernel) (by decide +kernel)
theorem k_497 : Cond.selects "SheetRefs$Area" yX0_cell yX0_cell ∈ goodT := gtI 497 (by decide +kernel) (by decide +kernel)
theorem k_498 : Cond.code yX0_cell cX0_cell 2 (some .int) ∈ goodT := gtI 498 (by decide +kernel) (by decide +kernel)
theorem k_499 : Cond.methodLink "SheetRefs$Area" 24 yX0_size ∈ goodT := gtI 499 (by decide +kernel) (by decide +kernel)
theorem k_500 : Cond.methodLinkNest "SheetRefs$Area" 28 yX8_cellAt "SheetRefs" ∈ nestT := ntI 500 (by decide +kernel) rfl
theorem k_501 : Cond.methodLink "SheetRefs$Sheet" 81 yX4_drop ∈ goodT := gtI 501 (by decide +kernel) (by decide +kernel)
theorem k_502 : Cond.methodLink "SheetRefs$Sheet" 89 yX4_whenMoved ∈ goodT := gtI 502 (by decide +kernel) (by decide +kernel)
theorem k_503 : Cond.static yX4_whenMoved ∈ goodT := gtI 503 (by decide +kernel) (by decide +kernel)
theorem k_504 : Cond.code yX4_whenMoved cX4_whenMoved 4 (some .int) ∈ goodT := gtI 504 (by decide +kernel) (by decide +kernel)
theorem k_505 : Cond.methodLink "SheetRefs$Sheet" 103 yX5_refers ∈ goodT := gtI 505 (by decide +kernel) (by decide +kernel)
theorem k_506 : Cond.methodLink "SheetRefs$Sheet" 118 yX0_holds ∈ goodT := gtI 506 (by decide +kernel) (by decide +kernel)
theorem k_507 : Cond.instanceMethod yX0_holds ∈ goodT := gtI 507 (by decide +kernel) (by decide +kernel)
theorem k_508 : Cond.selects "SheetRefs$Area" yX0_holds yX0_holds ∈ goodT := gtI 508 (by decide +kernel) (by decide +kernel)
theorem k_509 : Cond.code yX0_holds cX0_holds 2 (some .boolean) ∈ goodT := gtI 509 (by decide +kernel) (by decide +kernel)
theorem k_510 : Cond.methodLink "SheetRefs$Area" 32 yX5_least ∈ goodT := gtI 510 (by decide +kernel) (by decide +kernel)
theorem k_511 : Cond.methodLink "SheetRefs$Area" 37 yX5_greatest ∈ goodT := gtI 511 (by decide +kernel) (by decide +kernel)
theorem k_512 : Cond.methodLink "SheetRefs$Sheet" 115 yX5_further ∈ goodT := gtI 512 (by decide +kernel) (by decide +kernel)
theorem k_513 : Cond.static yX5_further ∈ goodT := gtI 513 (by decide +kernel) (by decide +kernel)
theorem k_514 : Cond.code yX5_further cX5_further 10 (some .int) ∈ goodT := gtI 514 (by decide +kernel) (by decide +kernel)
theorem k_515 : Cond.methodLinkNest "SheetRefs$Term" 47 yX8_isWithin "SheetRefs" ∈ nestT := ntI 515 (by decide +kernel) rfl
theorem k_516 : Cond.methodLink "SheetRefsLaw" 46 yX8_copies ∈ goodT := gtI 516 (by decide +kernel) (by decide +kernel)
theorem k_517 : Cond.instanceMethod yX8_copies ∈ goodT := gtI 517 (by decide +kernel) (by decide +kernel)
theorem k_518 : Cond.selects "SheetRefs" yX8_copies yX8_copies ∈ goodT := gtI 518 (by decide +kernel) (by decide +kernel)
theorem k_519 : Cond.code yX8_copies cX8_copies 7 (some .int) ∈ goodT := gtI 519 (by decide +kernel) (by decide +kernel)
theorem k_520 : Cond.methodLink "SheetRefs" 134 yX4_copyArea ∈ goodT := gtI 520 (by decide +kernel) (by decide +kernel)
theorem k_521 : Cond.instanceMethod yX4_copyArea ∈ goodT := gtI 521 (by decide +kernel) (by decide +kernel)
theorem k_522 : Cond.selects "SheetRefs$Sheet" yX4_copyArea yX4_copyArea ∈ goodT := gtI 522 (by decide +kernel) (by decide +kernel)
theorem k_523 : Cond.code yX4_copyArea cX4_copyArea 7 (some .int) ∈ goodT := gtI 523 (by decide +kernel) (by decide +kernel)
theorem k_524 : Cond.methodLink "SheetRefs$Sheet" 100 yX4_spreadTerms ∈ goodT := gtI 524 (by decide +kernel) (by decide +kernel)
theorem k_526 : Cond.instanceMethod yX4_spreadTerms ∈ goodT := gtI 526 (by decide +kernel) (by decide +kernel)
theorem k_527 : Cond.code yX4_spreadTerms cX4_spreadTerms 8 (some .int) ∈ goodT := gtI 527 (by decide +kernel) (by decide +kernel)
theorem k_528 : Cond.methodLink "SheetRefs$Sheet" 112 yX5_fixed ∈ goodT := gtI 528 (by decide +kernel) (by decide +kernel)
theorem k_529 : Cond.methodLink "SheetRefsLaw" 50 yX8_back ∈ goodT := gtI 529 (by decide +kernel) (by decide +kernel)
theorem k_530 : Cond.instanceMethod yX8_back ∈ goodT := gtI 530 (by decide +kernel) (by decide +kernel)
theorem k_531 : Cond.selects "SheetRefs" yX8_back yX8_back ∈ goodT := gtI 531 (by decide +kernel) (by decide +kernel)
theorem k_532 : Cond.code yX8_back cX8_back 1 (some .int) ∈ goodT := gtI 532 (by decide +kernel) (by decide +kernel)
theorem k_533 : Cond.methodLink "SheetRefs" 141 yX2_restore ∈ goodT := gtI 533 (by decide +kernel) (by decide +kernel)
theorem k_534 : Cond.instanceMethod yX2_restore ∈ goodT := gtI 534 (by decide +kernel) (by decide +kernel)
theorem k_535 : Cond.selects "SheetRefs$Past" yX2_restore yX2_restore ∈ goodT := gtI 535 (by decide +kernel) (by decide +kernel)
theorem k_536 : Cond.code yX2_restore cX2_restore 2 none ∈ goodT := gtI 536 (by decide +kernel) (by decide +kernel)
theorem k_537 : Cond.methodLink "SheetRefsLaw" 54 yX8_terms ∈ goodT := gtI 537 (by decide +kernel) (by decide +kernel)
theorem k_538 : Cond.instanceMethod yX8_terms ∈ goodT := gtI 538 (by decide +kernel) (by decide +kernel)
theorem k_539 : Cond.selects "SheetRefs" yX8_terms yX8_terms ∈ goodT := gtI 539 (by decide +kernel) (by decide +kernel)
theorem k_540 : Cond.code yX8_terms cX8_terms 3 (some .int) ∈ goodT := gtI 540 (by decide +kernel) (by decide +kernel)
theorem k_541 : Cond.methodLink "SheetRefsLaw" 58 yX8_term ∈ goodT := gtI 541 (by decide +kernel) (by decide +kernel)
theorem k_542 : Cond.instanceMethod yX8_term ∈ goodT := gtI 542 (by decide +kernel) (by decide +kernel)
theorem k_543 : Cond.selects "SheetRefs" yX8_term yX8_term ∈ goodT := gtI 543 (by decide +kernel) (by decide +kernel)
theorem k_544 : Cond.code yX8_term cX8_term 6 (some .int) ∈ goodT := gtI 544 (by decide +kernel) (by decide +kernel)
theorem k_545 : Cond.methodLink "SheetRefs" 147 yX4_termOf ∈ goodT := gtI 545 (by decide +kernel) (by decide +kernel)
theorem k_546 : Cond.methodLink "SheetRefs" 150 yX5_kind ∈ goodT := gtI 546 (by decide +kernel) (by decide +kernel)
theorem k_547 : Cond.methodLink "SheetRefs" 155 yX5_fixed ∈ goodT := gtI 547 (by decide +kernel) (by decide +kernel)
theorem k_548 : Cond.methodLink "SheetRefs" 158 yX5_number ∈ goodT := gtI 548 (by decide +kernel) (by decide +kernel)
theorem k_549 : Cond.static yX5_number ∈ goodT := gtI 549 (by decide +kernel) (by decide +kernel)
theorem k_550 : Cond.code yX5_number cX5_number 1 (some .int) ∈ goodT := gtI 550 (by decide +kernel) (by decide +kernel)
theorem k_551 : Cond.methodLink "SheetRefs" 161 yX5_coordinate ∈ goodT := gtI 551 (by decide +kernel) (by decide +kernel)
theorem k_552 : Cond.methodLink "SheetRefsLaw" 63 yX8_shown ∈ goodT := gtI 552 (by decide +kernel) (by decide +kernel)
theorem k_553 : Cond.instanceMethod yX8_shown ∈ goodT := gtI 553 (by decide +kernel) (by decide +kernel)
theorem k_554 : Cond.selects "SheetRefs" yX8_shown yX8_shown ∈ goodT := gtI 554 (by decide +kernel) (by decide +kernel)
theorem k_555 : Cond.code yX8_shown cX8_shown 4 (some .int) ∈ goodT := gtI 555 (by decide +kernel) (by decide +kernel)
theorem k_556 : Cond.methodLink "SheetRefs" 164 yX1_write ∈ goodT := gtI 556 (by decide +kernel) (by decide +kernel)
theorem k_557 : Cond.instanceMethod yX1_write ∈ goodT := gtI 557 (by decide +kernel) (by decide +kernel)
theorem k_558 : Cond.selects "SheetRefs$Page" yX1_write yX1_write ∈ goodT := gtI 558 (by decide +kernel) (by decide +kernel)
theorem k_559 : Cond.code yX1_write cX1_write 5 none ∈ goodT := gtI 559 (by decide +kernel) (by decide +kernel)
theorem k_560 : Cond.methodLink "SheetRefs$Page" 19 yX4_sizeOf ∈ goodT := gtI 560 (by decide +kernel) (by decide +kernel)
theorem k_561 : Cond.methodLink "SheetRefs$Page" 25 yX1_add ∈ goodT := gtI 561 (by decide +kernel) (by decide +kernel)
theorem k_563 : Cond.instanceMethod yX1_add ∈ goodT := gtI 563 (by decide +kernel) (by decide +kernel)
theorem k_564 : Cond.code yX1_add cX1_add 2 none ∈ goodT := gtI 564 (by decide +kernel) (by decide +kernel)
theorem k_565 : Cond.methodLink "SheetRefs$Page" 29 yX4_termOf ∈ goodT := gtI 565 (by decide +kernel) (by decide +kernel)
theorem k_566 : Cond.methodLink "SheetRefs$Page" 33 yX1_writeTerm ∈ goodT := gtI 566 (by decide +kernel) (by decide +kernel)
theorem k_568 : Cond.instanceMethod yX1_writeTerm ∈ goodT := gtI 568 (by decide +kernel) (by decide +kernel)
theorem k_569 : Cond.code yX1_writeTerm cX1_writeTerm 2 none ∈ goodT := gtI 569 (by decide +kernel) (by decide +kernel)
theorem k_570 : Cond.methodLink "SheetRefs$Page" 36 yX5_kind ∈ goodT := gtI 570 (by decide +kernel) (by decide +kernel)
theorem k_571 : Cond.methodLink "SheetRefs$Page" 41 yX5_number ∈ goodT := gtI 571 (by decide +kernel) (by decide +kernel)
theorem k_572 : Cond.methodLink "SheetRefs$Page" 44 yX1_writeNumber ∈ goodT := gtI 572 (by decide +kernel) (by decide +kernel)
theorem k_574 : Cond.instanceMethod yX1_writeNumber ∈ goodT := gtI 574 (by decide +kernel) (by decide +kernel)
theorem k_575 : Cond.code yX1_writeNumber cX1_writeNumber 2 none ∈ goodT := gtI 575 (by decide +kernel) (by decide +kernel)
theorem k_576 : Cond.methodLink "SheetRefs$Page" 47 yX1_writePlace ∈ goodT := gtI 576 (by decide +kernel) (by decide +kernel)
theorem k_578 : Cond.instanceMethod yX1_writePlace ∈ goodT := gtI 578 (by decide +kernel) (by decide +kernel)
theorem k_579 : Cond.code yX1_writePlace cX1_writePlace 4 none ∈ goodT := gtI 579 (by decide +kernel) (by decide +kernel)
theorem k_580 : Cond.methodLink "SheetRefs$Page" 51 yX5_fixed ∈ goodT := gtI 580 (by decide +kernel) (by decide +kernel)
theorem k_581 : Cond.methodLink "SheetRefs$Page" 54 yX5_coordinate ∈ goodT := gtI 581 (by decide +kernel) (by decide +kernel)
theorem k_582 : Cond.methodLink "SheetRefs" 168 yX1_letterAt ∈ goodT := gtI 582 (by decide +kernel) (by decide +kernel)
theorem k_583 : Cond.instanceMethod yX1_letterAt ∈ goodT := gtI 583 (by decide +kernel) (by decide +kernel)
theorem k_584 : Cond.selects "SheetRefs$Page" yX1_letterAt yX1_letterAt ∈ goodT := gtI 584 (by decide +kernel) (by decide +kernel)
theorem k_585 : Cond.code yX1_letterAt cX1_letterAt 2 (some .int) ∈ goodT := gtI 585 (by decide +kernel) (by decide +kernel)
theorem k_586 : Cond.methodLink "SheetRefsLaw" 67 yX8_value ∈ goodT := gtI 586 (by decide +kernel) (by decide +kernel)
theorem k_587 : Cond.instanceMethod yX8_value ∈ goodT := gtI 587 (by decide +kernel) (by decide +kernel)
theorem k_588 : Cond.selects "SheetRefs" yX8_value yX8_value ∈ goodT := gtI 588 (by decide +kernel) (by decide +kernel)
theorem k_589 : Cond.code yX8_value cX8_value 4 (some .int) ∈ goodT := gtI 589 (by decide +kernel) (by decide +kernel)
theorem k_590 : Cond.methodLink "SheetRefs" 171 yX7_isFaulty ∈ goodT := gtI 590 (by decide +kernel) (by decide +kernel)
theorem k_591 : Cond.instanceMethod yX7_isFaulty ∈ goodT := gtI 591 (by decide +kernel) (by decide +kernel)
theorem k_592 : Cond.selects "SheetRefs$Values" yX7_isFaulty yX7_isFaulty ∈ goodT := gtI 592 (by decide +kernel) (by decide +kernel)
theorem k_593 : Cond.code yX7_isFaulty cX7_isFaulty 2 (some .boolean) ∈ goodT := gtI 593 (by decide +kernel) (by decide +kernel)
theorem k_594 : Cond.methodLink "SheetRefs$Values" 46 yX7_ask ∈ goodT := gtI 594 (by decide +kernel) (by decide +kernel)
theorem k_596 : Cond.instanceMethod yX7_ask ∈ goodT := gtI 596 (by decide +kernel) (by decide +kernel)
theorem k_597 : Cond.code yX7_ask cX7_ask 5 (some .int) ∈ goodT := gtI 597 (by decide +kernel) (by decide +kernel)
theorem k_598 : Cond.methodLink "SheetRefs$Values" 56 yX7_meet ∈ goodT := gtI 598 (by decide +kernel) (by decide +kernel)
theorem k_600 : Cond.instanceMethod yX7_meet ∈ goodT := gtI 600 (by decide +kernel) (by decide +kernel)
theorem k_601 : Cond.code yX7_meet cX7_meet 4 none ∈ goodT := gtI 601 (by decide +kernel) (by decide +kernel)
theorem k_602 : Cond.methodLink "SheetRefs$Values" 60 yX4_termOf ∈ goodT := gtI 602 (by decide +kernel) (by decide +kernel)
theorem k_603 : Cond.methodLink "SheetRefs$Values" 65 yX7_addTerm ∈ goodT := gtI 603 (by decide +kernel) (by decide +kernel)
theorem k_605 : Cond.instanceMethod yX7_addTerm ∈ goodT := gtI 605 (by decide +kernel) (by decide +kernel)
theorem k_606 : Cond.code yX7_addTerm cX7_addTerm 11 (some .int) ∈ goodT := gtI 606 (by decide +kernel) (by decide +kernel)
theorem k_607 : Cond.methodLink "SheetRefs$Values" 69 yX5_kind ∈ goodT := gtI 607 (by decide +kernel) (by decide +kernel)
theorem k_608 : Cond.methodLink "SheetRefs$Values" 75 yX5_number ∈ goodT := gtI 608 (by decide +kernel) (by decide +kernel)
theorem k_609 : Cond.methodLink "SheetRefs$Values" 78 yX7_add ∈ goodT := gtI 609 (by decide +kernel) (by decide +kernel)
theorem k_611 : Cond.instanceMethod yX7_add ∈ goodT := gtI 611 (by decide +kernel) (by decide +kernel)
theorem k_612 : Cond.code yX7_add cX7_add 5 (some .int) ∈ goodT := gtI 612 (by decide +kernel) (by decide +kernel)
theorem k_613 : Cond.constant "SheetRefs$Values" 97 (99999 : Int32) ∈ goodT := gtI 613 (by decide +kernel) (by decide +kernel)
theorem k_614 : Cond.methodLink "SheetRefs$Values" 81 yX5_refers ∈ goodT := gtI 614 (by decide +kernel) (by decide +kernel)
theorem k_615 : Cond.methodLink "SheetRefs$Values" 84 yX5_greatest ∈ goodT := gtI 615 (by decide +kernel) (by decide +kernel)
theorem k_616 : Cond.methodLink "SheetRefs$Values" 87 yX5_least ∈ goodT := gtI 616 (by decide +kernel) (by decide +kernel)
theorem k_617 : Cond.methodLinkNest "SheetRefs$Values" 90 yX8_isPlace "SheetRefs" ∈ nestT := ntI 617 (by decide +kernel) rfl
theorem k_618 : Cond.methodLinkNest "SheetRefs$Values" 94 yX8_cellAt "SheetRefs" ∈ nestT := ntI 618 (by decide +kernel) rfl
theorem k_619 : Cond.methodLink "SheetRefsLaw" 71 yX8_why ∈ goodT := gtI 619 (by decide +kernel) (by decide +kernel)
theorem k_620 : Cond.instanceMethod yX8_why ∈ goodT := gtI 620 (by decide +kernel) (by decide +kernel)
theorem k_621 : Cond.selects "SheetRefs" yX8_why yX8_why ∈ goodT := gtI 621 (by decide +kernel) (by decide +kernel)
theorem k_622 : Cond.code yX8_why cX8_why 5 (some .int) ∈ goodT := gtI 622 (by decide +kernel) (by decide +kernel)
theorem k_623 : Cond.methodLink "SheetRefs" 184 yX8_columnOf ∈ goodT := gtI 623 (by decide +kernel) (by decide +kernel)
theorem k_624 : Cond.methodLink "SheetRefs" 187 yX8_rowOf ∈ goodT := gtI 624 (by decide +kernel) (by decide +kernel)
theorem k_625 : Cond.methodLink "SheetRefsLaw" 75 yX8_deep ∈ goodT := gtI 625 (by decide +kernel) (by decide +kernel)
theorem k_626 : Cond.instanceMethod yX8_deep ∈ goodT := gtI 626 (by decide +kernel) (by decide +kernel)
theorem k_627 : Cond.selects "SheetRefs" yX8_deep yX8_deep ∈ goodT := gtI 627 (by decide +kernel) (by decide +kernel)
theorem k_628 : Cond.code yX8_deep cX8_deep 4 (some .int) ∈ goodT := gtI 628 (by decide +kernel) (by decide +kernel)
theorem k_629 : Cond.methodLink "SheetRefsLaw" 79 yX8_users ∈ goodT := gtI 629 (by decide +kernel) (by decide +kernel)
theorem k_630 : Cond.instanceMethod yX8_users ∈ goodT := gtI 630 (by decide +kernel) (by decide +kernel)
theorem k_631 : Cond.selects "SheetRefs" yX8_users yX8_users ∈ goodT := gtI 631 (by decide +kernel) (by decide +kernel)
theorem k_632 : Cond.code yX8_users cX8_users 3 (some .int) ∈ goodT := gtI 632 (by decide +kernel) (by decide +kernel)
theorem k_633 : Cond.methodLink "SheetRefs" 193 yX4_referencesTo ∈ goodT := gtI 633 (by decide +kernel) (by decide +kernel)
theorem k_634 : Cond.instanceMethod yX4_referencesTo ∈ goodT := gtI 634 (by decide +kernel) (by decide +kernel)
theorem k_635 : Cond.selects "SheetRefs$Sheet" yX4_referencesTo yX4_referencesTo ∈ goodT := gtI 635 (by decide +kernel) (by decide +kernel)
theorem k_636 : Cond.code yX4_referencesTo cX4_referencesTo 6 (some .int) ∈ goodT := gtI 636 (by decide +kernel) (by decide +kernel)
theorem k_637 : Cond.methodLink "SheetRefs$Sheet" 106 yX5_least ∈ goodT := gtI 637 (by decide +kernel) (by decide +kernel)
theorem k_638 : Cond.methodLink "SheetRefs$Sheet" 109 yX5_greatest ∈ goodT := gtI 638 (by decide +kernel) (by decide +kernel)
theorem k_639 : Cond.methodLink "SheetRefsLaw" 83 yX8_count ∈ goodT := gtI 639 (by decide +kernel) (by decide +kernel)
theorem k_640 : Cond.instanceMethod yX8_count ∈ goodT := gtI 640 (by decide +kernel) (by decide +kernel)
theorem k_641 : Cond.selects "SheetRefs" yX8_count yX8_count ∈ goodT := gtI 641 (by decide +kernel) (by decide +kernel)
theorem k_642 : Cond.code yX8_count cX8_count 2 (some .int) ∈ goodT := gtI 642 (by decide +kernel) (by decide +kernel)
theorem k_643 : Cond.methodLink "SheetRefs" 196 yX4_allTerms ∈ goodT := gtI 643 (by decide +kernel) (by decide +kernel)
theorem k_644 : Cond.instanceMethod yX4_allTerms ∈ goodT := gtI 644 (by decide +kernel) (by decide +kernel)
theorem k_645 : Cond.selects "SheetRefs$Sheet" yX4_allTerms yX4_allTerms ∈ goodT := gtI 645 (by decide +kernel) (by decide +kernel)
theorem k_646 : Cond.code yX4_allTerms cX4_allTerms 3 (some .int) ∈ goodT := gtI 646 (by decide +kernel) (by decide +kernel)
theorem k_647 : Cond.methodLink "SheetRefs" 199 yX4_brokenTerms ∈ goodT := gtI 647 (by decide +kernel) (by decide +kernel)
theorem k_648 : Cond.instanceMethod yX4_brokenTerms ∈ goodT := gtI 648 (by decide +kernel) (by decide +kernel)
theorem k_649 : Cond.selects "SheetRefs$Sheet" yX4_brokenTerms yX4_brokenTerms ∈ goodT := gtI 649 (by decide +kernel) (by decide +kernel)
theorem k_650 : Cond.code yX4_brokenTerms cX4_brokenTerms 3 (some .int) ∈ goodT := gtI 650 (by decide +kernel) (by decide +kernel)
theorem k_651 : Cond.methodLink "SheetRefs" 202 yX7_faultyCells ∈ goodT := gtI 651 (by decide +kernel) (by decide +kernel)
theorem k_652 : Cond.instanceMethod yX7_faultyCells ∈ goodT := gtI 652 (by decide +kernel) (by decide +kernel)
theorem k_653 : Cond.selects "SheetRefs$Values" yX7_faultyCells yX7_faultyCells ∈ goodT := gtI 653 (by decide +kernel) (by decide +kernel)
theorem k_654 : Cond.code yX7_faultyCells cX7_faultyCells 3 (some .int) ∈ goodT := gtI 654 (by decide +kernel) (by decide +kernel)
theorem k_655 : Cond.methodLink "SheetRefs$Values" 38 yX7_isFaulty ∈ goodT := gtI 655 (by decide +kernel) (by decide +kernel)
theorem k_656 : Cond.methodLink "SheetRefsLaw" 87 yX8_told ∈ goodT := gtI 656 (by decide +kernel) (by decide +kernel)
theorem k_657 : Cond.instanceMethod yX8_told ∈ goodT := gtI 657 (by decide +kernel) (by decide +kernel)
theorem k_658 : Cond.selects "SheetRefs" yX8_told yX8_told ∈ goodT := gtI 658 (by decide +kernel) (by decide +kernel)
theorem k_659 : Cond.code yX8_told cX8_told 2 (some .int) ∈ goodT := gtI 659 (by decide +kernel) (by decide +kernel)
theorem k_660 : Cond.methodLink "SheetRefsLaw" 91 yX8_digest ∈ goodT := gtI 660 (by decide +kernel) (by decide +kernel)
theorem k_661 : Cond.instanceMethod yX8_digest ∈ goodT := gtI 661 (by decide +kernel) (by decide +kernel)
theorem k_662 : Cond.selects "SheetRefs" yX8_digest yX8_digest ∈ goodT := gtI 662 (by decide +kernel) (by decide +kernel)
theorem k_663 : Cond.code yX8_digest cX8_digest 4 (some .long) ∈ goodT := gtI 663 (by decide +kernel) (by decide +kernel)
theorem k_664 : Cond.constantLong "SheetRefs" 217 (1626 : Int64) ∈ goodT := gtI 664 (by decide +kernel) (by decide +kernel)
theorem k_665 : Cond.constantLong "SheetRefs" 219 (31 : Int64) ∈ goodT := gtI 665 (by decide +kernel) (by decide +kernel)
theorem k_666 : Cond.methodLink "SheetRefs" 221 yX8_told ∈ goodT := gtI 666 (by decide +kernel) (by decide +kernel)
theorem k_667 : Cond.methodLink "SheetRefs" 224 yX8_count ∈ goodT := gtI 667 (by decide +kernel) (by decide +kernel)
theorem k_668 : Cond.methodLink "SheetRefs" 227 yX8_digestWith ∈ goodT := gtI 668 (by decide +kernel) (by decide +kernel)
theorem k_670 : Cond.instanceMethod yX8_digestWith ∈ goodT := gtI 670 (by decide +kernel) (by decide +kernel)
theorem k_671 : Cond.code yX8_digestWith cX8_digestWith 10 (some .long) ∈ goodT := gtI 671 (by decide +kernel) (by decide +kernel)
theorem k_672 : Cond.methodLink "SheetRefs" 231 yX8_terms ∈ goodT := gtI 672 (by decide +kernel) (by decide +kernel)
theorem k_673 : Cond.methodLink "SheetRefs" 234 yX8_term ∈ goodT := gtI 673 (by decide +kernel) (by decide +kernel)
theorem k_674 : Cond.methodLink "SheetRefs" 238 yX8_value ∈ goodT := gtI 674 (by decide +kernel) (by decide +kernel)
theorem k_675 : Cond.methodLink "SheetRefs" 241 yX8_why ∈ goodT := gtI 675 (by decide +kernel) (by decide +kernel)
theorem k_676 : Cond.classLink "SheetRefsLaw" 10 "SheetRefsModel" ∈ goodT := gtI 676 (by decide +kernel) (by decide +kernel)
theorem k_677 : Cond.instantiable "SheetRefsModel" 23 ∈ goodT := gtI 677 (by decide +kernel) (by decide +kernel)
theorem k_678 : Cond.methodLink "SheetRefsLaw" 12 yX9_init ∈ goodT := gtI 678 (by decide +kernel) (by decide +kernel)
theorem k_679 : Cond.instanceMethod yX9_init ∈ goodT := gtI 679 (by decide +kernel) (by decide +kernel)
theorem k_680 : Cond.code yX9_init cX9_init 1 none ∈ goodT := gtI 680 (by decide +kernel) (by decide +kernel)
theorem k_681 : Cond.methodLink "SheetRefsModel" 1 objectInit ∈ goodT := gtI 681 (by decide +kernel) (by decide +kernel)
theorem k_682 : Cond.fieldLink "SheetRefsModel" 7 "SheetRefsModel" "now" "[I" ∈ goodT := gtI 682 (by decide +kernel) (by decide +kernel)
theorem k_683 : Cond.fieldLink "SheetRefsModel" 13 "SheetRefsModel" "aside" "[I" ∈ goodT := gtI 683 (by decide +kernel) (by decide +kernel)
theorem k_684 : Cond.fieldLink "SheetRefsModel" 16 "SheetRefsModel" "past" "[I" ∈ goodT := gtI 684 (by decide +kernel) (by decide +kernel)
theorem k_685 : Cond.fieldLink "SheetRefsModel" 49 "SheetRefsModel" "states" "I" ∈ goodT := gtI 685 (by decide +kernel) (by decide +kernel)
theorem k_686 : Cond.fieldLink "SheetRefsModel" 19 "SheetRefsModel" "refused" "[I" ∈ goodT := gtI 686 (by decide +kernel) (by decide +kernel)
theorem k_687 : Cond.fieldLink "SheetRefsModel" 22 "SheetRefsModel" "text" "[I" ∈ goodT := gtI 687 (by decide +kernel) (by decide +kernel)
theorem k_688 : Cond.fieldLink "SheetRefsModel" 60 "SheetRefsModel" "bytes" "I" ∈ goodT := gtI 688 (by decide +kernel) (by decide +kernel)
theorem k_689 : Cond.fieldLink "SheetRefsModel" 25 "SheetRefsModel" "read" "[I" ∈ goodT := gtI 689 (by decide +kernel) (by decide +kernel)
theorem k_690 : Cond.fieldLink "SheetRefsModel" 57 "SheetRefsModel" "spot" "I" ∈ goodT := gtI 690 (by decide +kernel) (by decide +kernel)
theorem k_691 : Cond.fieldLink "SheetRefsModel" 63 "SheetRefsModel" "wrongAt" "I" ∈ goodT := gtI 691 (by decide +kernel) (by decide +kernel)
theorem k_692 : Cond.fieldLink "SheetRefsModel" 28 "SheetRefsModel" "written" "[I" ∈ goodT := gtI 692 (by decide +kernel) (by decide +kernel)
theorem k_693 : Cond.fieldLink "SheetRefsModel" 170 "SheetRefsModel" "length" "I" ∈ goodT := gtI 693 (by decide +kernel) (by decide +kernel)
theorem k_694 : Cond.fieldLink "SheetRefsModel" 31 "SheetRefsModel" "isKnown" "[I" ∈ goodT := gtI 694 (by decide +kernel) (by decide +kernel)
theorem k_695 : Cond.fieldLink "SheetRefsModel" 34 "SheetRefsModel" "values" "[I" ∈ goodT := gtI 695 (by decide +kernel) (by decide +kernel)
theorem k_696 : Cond.fieldLink "SheetRefsModel" 37 "SheetRefsModel" "asked" "[I" ∈ goodT := gtI 696 (by decide +kernel) (by decide +kernel)
theorem k_697 : Cond.fieldLink "SheetRefsModel" 40 "SheetRefsModel" "termAt" "[I" ∈ goodT := gtI 697 (by decide +kernel) (by decide +kernel)
theorem k_698 : Cond.fieldLink "SheetRefsModel" 43 "SheetRefsModel" "cellAt" "[I" ∈ goodT := gtI 698 (by decide +kernel) (by decide +kernel)
theorem k_699 : Cond.fieldLink "SheetRefsModel" 46 "SheetRefsModel" "sums" "[I" ∈ goodT := gtI 699 (by decide +kernel) (by decide +kernel)
theorem k_700 : Cond.fieldLink "SheetRefsModel" 191 "SheetRefsModel" "depth" "I" ∈ goodT := gtI 700 (by decide +kernel) (by decide +kernel)
theorem k_701 : Cond.fieldLink "SheetRefsModel" 185 "SheetRefsModel" "fault" "I" ∈ goodT := gtI 701 (by decide +kernel) (by decide +kernel)
theorem k_702 : Cond.fieldLink "SheetRefsModel" 188 "SheetRefsModel" "faultCell" "I" ∈ goodT := gtI 702 (by decide +kernel) (by decide +kernel)
theorem k_703 : Cond.fieldLink "SheetRefsModel" 194 "SheetRefsModel" "faultDeep" "I" ∈ goodT := gtI 703 (by decide +kernel) (by decide +kernel)
theorem k_704 : Cond.fieldLink "SheetRefsModel" 236 "SheetRefsModel" "hash" "J" ∈ goodT := gtI 704 (by decide +kernel) (by decide +kernel)
theorem k_705 : Cond.laysFinal "SheetRefsModel" "SheetRefsModel" "now" "[I" ∈ goodT := gtI 705 (by decide +kernel) (by decide +kernel)
theorem k_707 : Cond.laysFinal "SheetRefsModel" "SheetRefsModel" "aside" "[I" ∈ goodT := gtI 707 (by decide +kernel) (by decide +kernel)
theorem k_709 : Cond.laysFinal "SheetRefsModel" "SheetRefsModel" "past" "[I" ∈ goodT := gtI 709 (by decide +kernel) (by decide +kernel)
theorem k_711 : Cond.lays "SheetRefsModel" "SheetRefsModel" "states" "I" ∈ goodT := gtI 711 (by decide +kernel) (by decide +kernel)
theorem k_713 : Cond.laysFinal "SheetRefsModel" "SheetRefsModel" "refused" "[I" ∈ goodT := gtI 713 (by decide +kernel) (by decide +kernel)
theorem k_715 : Cond.laysFinal "SheetRefsModel" "SheetRefsModel" "text" "[I" ∈ goodT := gtI 715 (by decide +kernel) (by decide +kernel)
theorem k_717 : Cond.lays "SheetRefsModel" "SheetRefsModel" "bytes" "I" ∈ goodT := gtI 717 (by decide +kernel) (by decide +kernel)
theorem k_719 : Cond.laysFinal "SheetRefsModel" "SheetRefsModel" "read" "[I" ∈ goodT := gtI 719 (by decide +kernel) (by decide +kernel)
theorem k_721 : Cond.lays "SheetRefsModel" "SheetRefsModel" "spot" "I" ∈ goodT := gtI 721 (by decide +kernel) (by decide +kernel)
theorem k_723 : Cond.lays "SheetRefsModel" "SheetRefsModel" "wrongAt" "I" ∈ goodT := gtI 723 (by decide +kernel) (by decide +kernel)
theorem k_725 : Cond.laysFinal "SheetRefsModel" "SheetRefsModel" "written" "[I" ∈ goodT := gtI 725 (by decide +kernel) (by decide +kernel)
theorem k_727 : Cond.lays "SheetRefsModel" "SheetRefsModel" "length" "I" ∈ goodT := gtI 727 (by decide +kernel) (by decide +kernel)
theorem k_729 : Cond.laysFinal "SheetRefsModel" "SheetRefsModel" "isKnown" "[I" ∈ goodT := gtI 729 (by decide +kernel) (by decide +kernel)
theorem k_731 : Cond.laysFinal "SheetRefsModel" "SheetRefsModel" "values" "[I" ∈ goodT := gtI 731 (by decide +kernel) (by decide +kernel)
theorem k_733 : Cond.laysFinal "SheetRefsModel" "SheetRefsModel" "asked" "[I" ∈ goodT := gtI 733 (by decide +kernel) (by decide +kernel)
theorem k_735 : Cond.laysFinal "SheetRefsModel" "SheetRefsModel" "termAt" "[I" ∈ goodT := gtI 735 (by decide +kernel) (by decide +kernel)
theorem k_737 : Cond.laysFinal "SheetRefsModel" "SheetRefsModel" "cellAt" "[I" ∈ goodT := gtI 737 (by decide +kernel) (by decide +kernel)
theorem k_739 : Cond.laysFinal "SheetRefsModel" "SheetRefsModel" "sums" "[I" ∈ goodT := gtI 739 (by decide +kernel) (by decide +kernel)
theorem k_741 : Cond.lays "SheetRefsModel" "SheetRefsModel" "depth" "I" ∈ goodT := gtI 741 (by decide +kernel) (by decide +kernel)
theorem k_743 : Cond.lays "SheetRefsModel" "SheetRefsModel" "fault" "I" ∈ goodT := gtI 743 (by decide +kernel) (by decide +kernel)
theorem k_745 : Cond.lays "SheetRefsModel" "SheetRefsModel" "faultCell" "I" ∈ goodT := gtI 745 (by decide +kernel) (by decide +kernel)
theorem k_747 : Cond.lays "SheetRefsModel" "SheetRefsModel" "faultDeep" "I" ∈ goodT := gtI 747 (by decide +kernel) (by decide +kernel)
theorem k_749 : Cond.lays "SheetRefsModel" "SheetRefsModel" "hash" "J" ∈ goodT := gtI 749 (by decide +kernel) (by decide +kernel)
theorem k_752 : Cond.methodLink "SheetRefsLaw" 53 yX9_back ∈ goodT := gtI 752 (by decide +kernel) (by decide +kernel)
theorem k_753 : Cond.instanceMethod yX9_back ∈ goodT := gtI 753 (by decide +kernel) (by decide +kernel)
theorem k_754 : Cond.selects "SheetRefsModel" yX9_back yX9_back ∈ goodT := gtI 754 (by decide +kernel) (by decide +kernel)
theorem k_755 : Cond.code yX9_back cX9_back 2 (some .int) ∈ goodT := gtI 755 (by decide +kernel) (by decide +kernel)
theorem k_756 : Cond.methodLink "SheetRefsLaw" 17 yX9_type ∈ goodT := gtI 756 (by decide +kernel) (by decide +kernel)
theorem k_757 : Cond.instanceMethod yX9_type ∈ goodT := gtI 757 (by decide +kernel) (by decide +kernel)
theorem k_758 : Cond.selects "SheetRefsModel" yX9_type yX9_type ∈ goodT := gtI 758 (by decide +kernel) (by decide +kernel)
theorem k_759 : Cond.code yX9_type cX9_type 2 (some .int) ∈ goodT := gtI 759 (by decide +kernel) (by decide +kernel)
theorem k_760 : Cond.methodLink "SheetRefsModel" 53 yX9_in ∈ goodT := gtI 760 (by decide +kernel) (by decide +kernel)
theorem k_761 : Cond.static yX9_in ∈ goodT := gtI 761 (by decide +kernel) (by decide +kernel)
theorem k_762 : Cond.code yX9_in cX9_in 3 (some .boolean) ∈ goodT := gtI 762 (by decide +kernel) (by decide +kernel)
theorem k_763 : Cond.methodLink "SheetRefsModel" 95 yX9_bad ∈ goodT := gtI 763 (by decide +kernel) (by decide +kernel)
theorem k_765 : Cond.instanceMethod yX9_bad ∈ goodT := gtI 765 (by decide +kernel) (by decide +kernel)
theorem k_766 : Cond.code yX9_bad cX9_bad 1 (some .int) ∈ goodT := gtI 766 (by decide +kernel) (by decide +kernel)
theorem k_767 : Cond.methodLink "SheetRefsLaw" 22 yX9_clear ∈ goodT := gtI 767 (by decide +kernel) (by decide +kernel)
theorem k_768 : Cond.instanceMethod yX9_clear ∈ goodT := gtI 768 (by decide +kernel) (by decide +kernel)
theorem k_769 : Cond.selects "SheetRefsModel" yX9_clear yX9_clear ∈ goodT := gtI 769 (by decide +kernel) (by decide +kernel)
theorem k_770 : Cond.code yX9_clear cX9_clear 2 (some .int) ∈ goodT := gtI 770 (by decide +kernel) (by decide +kernel)
theorem k_771 : Cond.methodLink "SheetRefsLaw" 27 yX9_put ∈ goodT := gtI 771 (by decide +kernel) (by decide +kernel)
theorem k_772 : Cond.instanceMethod yX9_put ∈ goodT := gtI 772 (by decide +kernel) (by decide +kernel)
theorem k_773 : Cond.selects "SheetRefsModel" yX9_put yX9_put ∈ goodT := gtI 773 (by decide +kernel) (by decide +kernel)
theorem k_774 : Cond.code yX9_put cX9_put 4 (some .int) ∈ goodT := gtI 774 (by decide +kernel) (by decide +kernel)
theorem k_775 : Cond.methodLink "SheetRefsModel" 99 yX9_isCell ∈ goodT := gtI 775 (by decide +kernel) (by decide +kernel)
theorem k_776 : Cond.static yX9_isCell ∈ goodT := gtI 776 (by decide +kernel) (by decide +kernel)
theorem k_777 : Cond.code yX9_isCell cX9_isCell 2 (some .boolean) ∈ goodT := gtI 777 (by decide +kernel) (by decide +kernel)
theorem k_778 : Cond.methodLink "SheetRefsModel" 102 yX9_isRead ∈ goodT := gtI 778 (by decide +kernel) (by decide +kernel)
theorem k_780 : Cond.instanceMethod yX9_isRead ∈ goodT := gtI 780 (by decide +kernel) (by decide +kernel)
theorem k_781 : Cond.code yX9_isRead cX9_isRead 2 (some .boolean) ∈ goodT := gtI 781 (by decide +kernel) (by decide +kernel)
theorem k_782 : Cond.methodLink "SheetRefsModel" 74 yX9_blanks ∈ goodT := gtI 782 (by decide +kernel) (by decide +kernel)
theorem k_784 : Cond.instanceMethod yX9_blanks ∈ goodT := gtI 784 (by decide +kernel) (by decide +kernel)
theorem k_785 : Cond.code yX9_blanks cX9_blanks 1 none ∈ goodT := gtI 785 (by decide +kernel) (by decide +kernel)
theorem k_786 : Cond.methodLink "SheetRefsModel" 92 yX9_takesTerm ∈ goodT := gtI 786 (by decide +kernel) (by decide +kernel)
theorem k_788 : Cond.instanceMethod yX9_takesTerm ∈ goodT := gtI 788 (by decide +kernel) (by decide +kernel)
theorem k_789 : Cond.code yX9_takesTerm cX9_takesTerm 2 (some .boolean) ∈ goodT := gtI 789 (by decide +kernel) (by decide +kernel)
theorem k_790 : Cond.methodLink "SheetRefsModel" 66 yX9_isAt ∈ goodT := gtI 790 (by decide +kernel) (by decide +kernel)
theorem k_792 : Cond.instanceMethod yX9_isAt ∈ goodT := gtI 792 (by decide +kernel) (by decide +kernel)
theorem k_793 : Cond.code yX9_isAt cX9_isAt 3 (some .boolean) ∈ goodT := gtI 793 (by decide +kernel) (by decide +kernel)
theorem k_794 : Cond.methodLink "SheetRefsModel" 81 yX9_takesNumber ∈ goodT := gtI 794 (by decide +kernel) (by decide +kernel)
theorem k_796 : Cond.instanceMethod yX9_takesNumber ∈ goodT := gtI 796 (by decide +kernel) (by decide +kernel)
theorem k_797 : Cond.code yX9_takesNumber cX9_takesNumber 4 (some .boolean) ∈ goodT := gtI 797 (by decide +kernel) (by decide +kernel)
theorem k_798 : Cond.methodLink "SheetRefsModel" 70 yX9_fails ∈ goodT := gtI 798 (by decide +kernel) (by decide +kernel)
theorem k_800 : Cond.instanceMethod yX9_fails ∈ goodT := gtI 800 (by decide +kernel) (by decide +kernel)
theorem k_801 : Cond.code yX9_fails cX9_fails 1 (some .boolean) ∈ goodT := gtI 801 (by decide +kernel) (by decide +kernel)
theorem k_802 : Cond.methodLink "SheetRefsModel" 85 yX9_takesPlace ∈ goodT := gtI 802 (by decide +kernel) (by decide +kernel)
theorem k_804 : Cond.instanceMethod yX9_takesPlace ∈ goodT := gtI 804 (by decide +kernel) (by decide +kernel)
theorem k_805 : Cond.code yX9_takesPlace cX9_takesPlace 5 (some .boolean) ∈ goodT := gtI 805 (by decide +kernel) (by decide +kernel)
theorem k_806 : Cond.methodLink "SheetRefsModel" 77 yX9_dollar ∈ goodT := gtI 806 (by decide +kernel) (by decide +kernel)
theorem k_808 : Cond.instanceMethod yX9_dollar ∈ goodT := gtI 808 (by decide +kernel) (by decide +kernel)
theorem k_809 : Cond.code yX9_dollar cX9_dollar 2 (some .int) ∈ goodT := gtI 809 (by decide +kernel) (by decide +kernel)
theorem k_810 : Cond.methodLink "SheetRefsModel" 88 yX9_sorts ∈ goodT := gtI 810 (by decide +kernel) (by decide +kernel)
theorem k_811 : Cond.static yX9_sorts ∈ goodT := gtI 811 (by decide +kernel) (by decide +kernel)
theorem k_812 : Cond.code yX9_sorts cX9_sorts 8 none ∈ goodT := gtI 812 (by decide +kernel) (by decide +kernel)
theorem k_813 : Cond.methodLink "SheetRefsModel" 105 yX9_laysAside ∈ goodT := gtI 813 (by decide +kernel) (by decide +kernel)
theorem k_815 : Cond.instanceMethod yX9_laysAside ∈ goodT := gtI 815 (by decide +kernel) (by decide +kernel)
theorem k_816 : Cond.code yX9_laysAside cX9_laysAside 2 none ∈ goodT := gtI 816 (by decide +kernel) (by decide +kernel)
theorem k_817 : Cond.methodLink "SheetRefsModel" 108 yX9_remembers ∈ goodT := gtI 817 (by decide +kernel) (by decide +kernel)
theorem k_819 : Cond.instanceMethod yX9_remembers ∈ goodT := gtI 819 (by decide +kernel) (by decide +kernel)
theorem k_820 : Cond.code yX9_remembers cX9_remembers 2 none ∈ goodT := gtI 820 (by decide +kernel) (by decide +kernel)
theorem k_821 : Cond.methodLink "SheetRefsModel" 111 yX9_placeOf ∈ goodT := gtI 821 (by decide +kernel) (by decide +kernel)
theorem k_822 : Cond.static yX9_placeOf ∈ goodT := gtI 822 (by decide +kernel) (by decide +kernel)
theorem k_823 : Cond.code yX9_placeOf cX9_placeOf 2 (some .int) ∈ goodT := gtI 823 (by decide +kernel) (by decide +kernel)
theorem k_824 : Cond.methodLink "SheetRefsLaw" 31 yX9_empties ∈ goodT := gtI 824 (by decide +kernel) (by decide +kernel)
theorem k_825 : Cond.instanceMethod yX9_empties ∈ goodT := gtI 825 (by decide +kernel) (by decide +kernel)
theorem k_826 : Cond.selects "SheetRefsModel" yX9_empties yX9_empties ∈ goodT := gtI 826 (by decide +kernel) (by decide +kernel)
theorem k_827 : Cond.code yX9_empties cX9_empties 4 (some .int) ∈ goodT := gtI 827 (by decide +kernel) (by decide +kernel)
theorem k_828 : Cond.methodLink "SheetRefsModel" 115 yX9_empty ∈ goodT := gtI 828 (by decide +kernel) (by decide +kernel)
theorem k_830 : Cond.instanceMethod yX9_empty ∈ goodT := gtI 830 (by decide +kernel) (by decide +kernel)
theorem k_831 : Cond.code yX9_empty cX9_empty 3 none ∈ goodT := gtI 831 (by decide +kernel) (by decide +kernel)
theorem k_832 : Cond.methodLink "SheetRefsLaw" 36 yX9_comes ∈ goodT := gtI 832 (by decide +kernel) (by decide +kernel)
theorem k_833 : Cond.instanceMethod yX9_comes ∈ goodT := gtI 833 (by decide +kernel) (by decide +kernel)
theorem k_834 : Cond.selects "SheetRefsModel" yX9_comes yX9_comes ∈ goodT := gtI 834 (by decide +kernel) (by decide +kernel)
theorem k_835 : Cond.code yX9_comes cX9_comes 4 (some .int) ∈ goodT := gtI 835 (by decide +kernel) (by decide +kernel)
theorem k_836 : Cond.methodLink "SheetRefsModel" 147 yX9_wouldLose ∈ goodT := gtI 836 (by decide +kernel) (by decide +kernel)
theorem k_838 : Cond.instanceMethod yX9_wouldLose ∈ goodT := gtI 838 (by decide +kernel) (by decide +kernel)
theorem k_839 : Cond.code yX9_wouldLose cX9_wouldLose 7 (some .boolean) ∈ goodT := gtI 839 (by decide +kernel) (by decide +kernel)
theorem k_840 : Cond.methodLink "SheetRefsModel" 123 yX9_cellBy ∈ goodT := gtI 840 (by decide +kernel) (by decide +kernel)
theorem k_841 : Cond.static yX9_cellBy ∈ goodT := gtI 841 (by decide +kernel) (by decide +kernel)
theorem k_842 : Cond.code yX9_cellBy cX9_cellBy 3 (some .int) ∈ goodT := gtI 842 (by decide +kernel) (by decide +kernel)
theorem k_843 : Cond.methodLink "SheetRefsModel" 150 yX9_shifts ∈ goodT := gtI 843 (by decide +kernel) (by decide +kernel)
theorem k_845 : Cond.instanceMethod yX9_shifts ∈ goodT := gtI 845 (by decide +kernel) (by decide +kernel)
theorem k_846 : Cond.code yX9_shifts cX9_shifts 8 none ∈ goodT := gtI 846 (by decide +kernel) (by decide +kernel)
theorem k_847 : Cond.methodLink "SheetRefsModel" 133 yX9_shiftsCells ∈ goodT := gtI 847 (by decide +kernel) (by decide +kernel)
theorem k_849 : Cond.instanceMethod yX9_shiftsCells ∈ goodT := gtI 849 (by decide +kernel) (by decide +kernel)
theorem k_850 : Cond.code yX9_shiftsCells cX9_shiftsCells 7 none ∈ goodT := gtI 850 (by decide +kernel) (by decide +kernel)
theorem k_851 : Cond.methodLink "SheetRefsModel" 119 yX9_lineBehind ∈ goodT := gtI 851 (by decide +kernel) (by decide +kernel)
theorem k_852 : Cond.static yX9_lineBehind ∈ goodT := gtI 852 (by decide +kernel) (by decide +kernel)
theorem k_853 : Cond.code yX9_lineBehind cX9_lineBehind 3 (some .int) ∈ goodT := gtI 853 (by decide +kernel) (by decide +kernel)
theorem k_854 : Cond.methodLink "SheetRefsModel" 126 yX9_takes ∈ goodT := gtI 854 (by decide +kernel) (by decide +kernel)
theorem k_856 : Cond.instanceMethod yX9_takes ∈ goodT := gtI 856 (by decide +kernel) (by decide +kernel)
theorem k_857 : Cond.code yX9_takes cX9_takes 4 none ∈ goodT := gtI 857 (by decide +kernel) (by decide +kernel)
theorem k_858 : Cond.methodLink "SheetRefsModel" 137 yX9_termPlace ∈ goodT := gtI 858 (by decide +kernel) (by decide +kernel)
theorem k_859 : Cond.static yX9_termPlace ∈ goodT := gtI 859 (by decide +kernel) (by decide +kernel)
theorem k_860 : Cond.code yX9_termPlace cX9_termPlace 2 (some .int) ∈ goodT := gtI 860 (by decide +kernel) (by decide +kernel)
theorem k_861 : Cond.methodLink "SheetRefsModel" 140 yX9_shiftsPlace ∈ goodT := gtI 861 (by decide +kernel) (by decide +kernel)
theorem k_863 : Cond.instanceMethod yX9_shiftsPlace ∈ goodT := gtI 863 (by decide +kernel) (by decide +kernel)
theorem k_864 : Cond.code yX9_shiftsPlace cX9_shiftsPlace 6 none ∈ goodT := gtI 864 (by decide +kernel) (by decide +kernel)
theorem k_865 : Cond.methodLink "SheetRefsModel" 130 yX9_breaks ∈ goodT := gtI 865 (by decide +kernel) (by decide +kernel)
theorem k_867 : Cond.instanceMethod yX9_breaks ∈ goodT := gtI 867 (by decide +kernel) (by decide +kernel)
theorem k_868 : Cond.code yX9_breaks cX9_breaks 3 none ∈ goodT := gtI 868 (by decide +kernel) (by decide +kernel)
theorem k_869 : Cond.methodLink "SheetRefsModel" 144 yX9_shiftsBlock ∈ goodT := gtI 869 (by decide +kernel) (by decide +kernel)
theorem k_871 : Cond.instanceMethod yX9_shiftsBlock ∈ goodT := gtI 871 (by decide +kernel) (by decide +kernel)
theorem k_872 : Cond.code yX9_shiftsBlock cX9_shiftsBlock 7 none ∈ goodT := gtI 872 (by decide +kernel) (by decide +kernel)
theorem k_873 : Cond.methodLink "SheetRefsModel" 153 yX9_filled ∈ goodT := gtI 873 (by decide +kernel) (by decide +kernel)
theorem k_875 : Cond.instanceMethod yX9_filled ∈ goodT := gtI 875 (by decide +kernel) (by decide +kernel)
theorem k_876 : Cond.code yX9_filled cX9_filled 3 (some .int) ∈ goodT := gtI 876 (by decide +kernel) (by decide +kernel)
theorem k_877 : Cond.methodLink "SheetRefsLaw" 40 yX9_goes ∈ goodT := gtI 877 (by decide +kernel) (by decide +kernel)
theorem k_878 : Cond.instanceMethod yX9_goes ∈ goodT := gtI 878 (by decide +kernel) (by decide +kernel)
theorem k_879 : Cond.selects "SheetRefsModel" yX9_goes yX9_goes ∈ goodT := gtI 879 (by decide +kernel) (by decide +kernel)
theorem k_880 : Cond.code yX9_goes cX9_goes 4 (some .int) ∈ goodT := gtI 880 (by decide +kernel) (by decide +kernel)
theorem k_881 : Cond.methodLink "SheetRefsLaw" 45 yX9_moves ∈ goodT := gtI 881 (by decide +kernel) (by decide +kernel)
theorem k_882 : Cond.instanceMethod yX9_moves ∈ goodT := gtI 882 (by decide +kernel) (by decide +kernel)
theorem k_883 : Cond.selects "SheetRefsModel" yX9_moves yX9_moves ∈ goodT := gtI 883 (by decide +kernel) (by decide +kernel)
theorem k_884 : Cond.code yX9_moves cX9_moves 12 (some .int) ∈ goodT := gtI 884 (by decide +kernel) (by decide +kernel)
theorem k_885 : Cond.methodLink "SheetRefsModel" 156 yX9_isWithin ∈ goodT := gtI 885 (by decide +kernel) (by decide +kernel)
theorem k_886 : Cond.static yX9_isWithin ∈ goodT := gtI 886 (by decide +kernel) (by decide +kernel)
theorem k_887 : Cond.code yX9_isWithin cX9_isWithin 4 (some .boolean) ∈ goodT := gtI 887 (by decide +kernel) (by decide +kernel)
theorem k_888 : Cond.methodLink "SheetRefsModel" 160 yX9_liesIn ∈ goodT := gtI 888 (by decide +kernel) (by decide +kernel)
theorem k_890 : Cond.instanceMethod yX9_liesIn ∈ goodT := gtI 890 (by decide +kernel) (by decide +kernel)
theorem k_891 : Cond.code yX9_liesIn cX9_liesIn 8 (some .boolean) ∈ goodT := gtI 891 (by decide +kernel) (by decide +kernel)
theorem k_892 : Cond.methodLink "SheetRefsModel" 164 yX9_pushes ∈ goodT := gtI 892 (by decide +kernel) (by decide +kernel)
theorem k_894 : Cond.instanceMethod yX9_pushes ∈ goodT := gtI 894 (by decide +kernel) (by decide +kernel)
theorem k_895 : Cond.code yX9_pushes cX9_pushes 4 none ∈ goodT := gtI 895 (by decide +kernel) (by decide +kernel)
theorem k_896 : Cond.methodLink "SheetRefsLaw" 49 yX9_copies ∈ goodT := gtI 896 (by decide +kernel) (by decide +kernel)
theorem k_897 : Cond.instanceMethod yX9_copies ∈ goodT := gtI 897 (by decide +kernel) (by decide +kernel)
theorem k_898 : Cond.selects "SheetRefsModel" yX9_copies yX9_copies ∈ goodT := gtI 898 (by decide +kernel) (by decide +kernel)
theorem k_899 : Cond.code yX9_copies cX9_copies 12 (some .int) ∈ goodT := gtI 899 (by decide +kernel) (by decide +kernel)
theorem k_900 : Cond.methodLink "SheetRefsModel" 167 yX9_goesOn ∈ goodT := gtI 900 (by decide +kernel) (by decide +kernel)
theorem k_902 : Cond.instanceMethod yX9_goesOn ∈ goodT := gtI 902 (by decide +kernel) (by decide +kernel)
theorem k_903 : Cond.code yX9_goesOn cX9_goesOn 6 none ∈ goodT := gtI 903 (by decide +kernel) (by decide +kernel)
theorem k_904 : Cond.methodLink "SheetRefsLaw" 57 yX9_terms ∈ goodT := gtI 904 (by decide +kernel) (by decide +kernel)
theorem k_905 : Cond.instanceMethod yX9_terms ∈ goodT := gtI 905 (by decide +kernel) (by decide +kernel)
theorem k_906 : Cond.selects "SheetRefsModel" yX9_terms yX9_terms ∈ goodT := gtI 906 (by decide +kernel) (by decide +kernel)
theorem k_907 : Cond.code yX9_terms cX9_terms 3 (some .int) ∈ goodT := gtI 907 (by decide +kernel) (by decide +kernel)
theorem k_908 : Cond.methodLink "SheetRefsLaw" 62 yX9_term ∈ goodT := gtI 908 (by decide +kernel) (by decide +kernel)
theorem k_909 : Cond.instanceMethod yX9_term ∈ goodT := gtI 909 (by decide +kernel) (by decide +kernel)
theorem k_910 : Cond.selects "SheetRefsModel" yX9_term yX9_term ∈ goodT := gtI 910 (by decide +kernel) (by decide +kernel)
theorem k_911 : Cond.code yX9_term cX9_term 6 (some .int) ∈ goodT := gtI 911 (by decide +kernel) (by decide +kernel)
theorem k_912 : Cond.methodLink "SheetRefsLaw" 66 yX9_shown ∈ goodT := gtI 912 (by decide +kernel) (by decide +kernel)
theorem k_913 : Cond.instanceMethod yX9_shown ∈ goodT := gtI 913 (by decide +kernel) (by decide +kernel)
theorem k_914 : Cond.selects "SheetRefsModel" yX9_shown yX9_shown ∈ goodT := gtI 914 (by decide +kernel) (by decide +kernel)
theorem k_915 : Cond.code yX9_shown cX9_shown 6 (some .int) ∈ goodT := gtI 915 (by decide +kernel) (by decide +kernel)
theorem k_916 : Cond.methodLink "SheetRefsModel" 173 yX9_writes ∈ goodT := gtI 916 (by decide +kernel) (by decide +kernel)
theorem k_918 : Cond.instanceMethod yX9_writes ∈ goodT := gtI 918 (by decide +kernel) (by decide +kernel)
theorem k_919 : Cond.code yX9_writes cX9_writes 2 none ∈ goodT := gtI 919 (by decide +kernel) (by decide +kernel)
theorem k_920 : Cond.methodLink "SheetRefsModel" 182 yX9_writesTerm ∈ goodT := gtI 920 (by decide +kernel) (by decide +kernel)
theorem k_922 : Cond.instanceMethod yX9_writesTerm ∈ goodT := gtI 922 (by decide +kernel) (by decide +kernel)
theorem k_923 : Cond.code yX9_writesTerm cX9_writesTerm 2 none ∈ goodT := gtI 923 (by decide +kernel) (by decide +kernel)
theorem k_924 : Cond.methodLink "SheetRefsModel" 176 yX9_writesNumber ∈ goodT := gtI 924 (by decide +kernel) (by decide +kernel)
theorem k_926 : Cond.instanceMethod yX9_writesNumber ∈ goodT := gtI 926 (by decide +kernel) (by decide +kernel)
theorem k_927 : Cond.code yX9_writesNumber cX9_writesNumber 2 none ∈ goodT := gtI 927 (by decide +kernel) (by decide +kernel)
theorem k_928 : Cond.methodLink "SheetRefsModel" 179 yX9_writesPlace ∈ goodT := gtI 928 (by decide +kernel) (by decide +kernel)
theorem k_930 : Cond.instanceMethod yX9_writesPlace ∈ goodT := gtI 930 (by decide +kernel) (by decide +kernel)
theorem k_931 : Cond.code yX9_writesPlace cX9_writesPlace 4 none ∈ goodT := gtI 931 (by decide +kernel) (by decide +kernel)
theorem k_932 : Cond.methodLink "SheetRefsLaw" 70 yX9_value ∈ goodT := gtI 932 (by decide +kernel) (by decide +kernel)
theorem k_933 : Cond.instanceMethod yX9_value ∈ goodT := gtI 933 (by decide +kernel) (by decide +kernel)
theorem k_934 : Cond.selects "SheetRefsModel" yX9_value yX9_value ∈ goodT := gtI 934 (by decide +kernel) (by decide +kernel)
theorem k_935 : Cond.code yX9_value cX9_value 3 (some .int) ∈ goodT := gtI 935 (by decide +kernel) (by decide +kernel)
theorem k_936 : Cond.methodLink "SheetRefsModel" 216 yX9_valueOf ∈ goodT := gtI 936 (by decide +kernel) (by decide +kernel)
theorem k_938 : Cond.instanceMethod yX9_valueOf ∈ goodT := gtI 938 (by decide +kernel) (by decide +kernel)
theorem k_939 : Cond.code yX9_valueOf cX9_valueOf 2 (some .int) ∈ goodT := gtI 939 (by decide +kernel) (by decide +kernel)
theorem k_940 : Cond.methodLink "SheetRefsModel" 213 yX9_finds ∈ goodT := gtI 940 (by decide +kernel) (by decide +kernel)
theorem k_942 : Cond.instanceMethod yX9_finds ∈ goodT := gtI 942 (by decide +kernel) (by decide +kernel)
theorem k_943 : Cond.code yX9_finds cX9_finds 3 none ∈ goodT := gtI 943 (by decide +kernel) (by decide +kernel)
theorem k_944 : Cond.methodLink "SheetRefsModel" 204 yX9_asks ∈ goodT := gtI 944 (by decide +kernel) (by decide +kernel)
theorem k_946 : Cond.instanceMethod yX9_asks ∈ goodT := gtI 946 (by decide +kernel) (by decide +kernel)
theorem k_947 : Cond.code yX9_asks cX9_asks 2 none ∈ goodT := gtI 947 (by decide +kernel) (by decide +kernel)
theorem k_948 : Cond.methodLink "SheetRefsModel" 198 yX9_meets ∈ goodT := gtI 948 (by decide +kernel) (by decide +kernel)
theorem k_950 : Cond.instanceMethod yX9_meets ∈ goodT := gtI 950 (by decide +kernel) (by decide +kernel)
theorem k_951 : Cond.code yX9_meets cX9_meets 3 none ∈ goodT := gtI 951 (by decide +kernel) (by decide +kernel)
theorem k_952 : Cond.methodLink "SheetRefsModel" 201 yX9_adds ∈ goodT := gtI 952 (by decide +kernel) (by decide +kernel)
theorem k_954 : Cond.instanceMethod yX9_adds ∈ goodT := gtI 954 (by decide +kernel) (by decide +kernel)
theorem k_955 : Cond.code yX9_adds cX9_adds 2 none ∈ goodT := gtI 955 (by decide +kernel) (by decide +kernel)
theorem k_956 : Cond.constant "SheetRefsModel" 197 (99999 : Int32) ∈ goodT := gtI 956 (by decide +kernel) (by decide +kernel)
theorem k_957 : Cond.methodLink "SheetRefsModel" 210 yX9_goesOnAsking ∈ goodT := gtI 957 (by decide +kernel) (by decide +kernel)
theorem k_959 : Cond.instanceMethod yX9_goesOnAsking ∈ goodT := gtI 959 (by decide +kernel) (by decide +kernel)
theorem k_960 : Cond.code yX9_goesOnAsking cX9_goesOnAsking 4 none ∈ goodT := gtI 960 (by decide +kernel) (by decide +kernel)
theorem k_961 : Cond.methodLink "SheetRefsModel" 207 yX9_asksOfBlock ∈ goodT := gtI 961 (by decide +kernel) (by decide +kernel)
theorem k_963 : Cond.instanceMethod yX9_asksOfBlock ∈ goodT := gtI 963 (by decide +kernel) (by decide +kernel)
theorem k_964 : Cond.code yX9_asksOfBlock cX9_asksOfBlock 6 none ∈ goodT := gtI 964 (by decide +kernel) (by decide +kernel)
theorem k_965 : Cond.methodLink "SheetRefsLaw" 74 yX9_why ∈ goodT := gtI 965 (by decide +kernel) (by decide +kernel)
theorem k_966 : Cond.instanceMethod yX9_why ∈ goodT := gtI 966 (by decide +kernel) (by decide +kernel)
theorem k_967 : Cond.selects "SheetRefsModel" yX9_why yX9_why ∈ goodT := gtI 967 (by decide +kernel) (by decide +kernel)
theorem k_968 : Cond.code yX9_why cX9_why 3 (some .int) ∈ goodT := gtI 968 (by decide +kernel) (by decide +kernel)
theorem k_969 : Cond.methodLink "SheetRefsModel" 219 yX9_whyOf ∈ goodT := gtI 969 (by decide +kernel) (by decide +kernel)
theorem k_971 : Cond.instanceMethod yX9_whyOf ∈ goodT := gtI 971 (by decide +kernel) (by decide +kernel)
theorem k_972 : Cond.code yX9_whyOf cX9_whyOf 2 (some .int) ∈ goodT := gtI 972 (by decide +kernel) (by decide +kernel)
theorem k_973 : Cond.methodLink "SheetRefsLaw" 78 yX9_deep ∈ goodT := gtI 973 (by decide +kernel) (by decide +kernel)
theorem k_974 : Cond.instanceMethod yX9_deep ∈ goodT := gtI 974 (by decide +kernel) (by decide +kernel)
theorem k_975 : Cond.selects "SheetRefsModel" yX9_deep yX9_deep ∈ goodT := gtI 975 (by decide +kernel) (by decide +kernel)
theorem k_976 : Cond.code yX9_deep cX9_deep 3 (some .int) ∈ goodT := gtI 976 (by decide +kernel) (by decide +kernel)
theorem k_977 : Cond.methodLink "SheetRefsModel" 222 yX9_deepOf ∈ goodT := gtI 977 (by decide +kernel) (by decide +kernel)
theorem k_979 : Cond.instanceMethod yX9_deepOf ∈ goodT := gtI 979 (by decide +kernel) (by decide +kernel)
theorem k_980 : Cond.code yX9_deepOf cX9_deepOf 2 (some .int) ∈ goodT := gtI 980 (by decide +kernel) (by decide +kernel)
theorem k_981 : Cond.methodLink "SheetRefsLaw" 82 yX9_users ∈ goodT := gtI 981 (by decide +kernel) (by decide +kernel)
theorem k_982 : Cond.instanceMethod yX9_users ∈ goodT := gtI 982 (by decide +kernel) (by decide +kernel)
theorem k_983 : Cond.selects "SheetRefsModel" yX9_users yX9_users ∈ goodT := gtI 983 (by decide +kernel) (by decide +kernel)
theorem k_984 : Cond.code yX9_users cX9_users 6 (some .int) ∈ goodT := gtI 984 (by decide +kernel) (by decide +kernel)
theorem k_985 : Cond.methodLink "SheetRefsModel" 225 yX9_refersTo ∈ goodT := gtI 985 (by decide +kernel) (by decide +kernel)
theorem k_987 : Cond.instanceMethod yX9_refersTo ∈ goodT := gtI 987 (by decide +kernel) (by decide +kernel)
theorem k_988 : Cond.code yX9_refersTo cX9_refersTo 4 (some .boolean) ∈ goodT := gtI 988 (by decide +kernel) (by decide +kernel)
theorem k_989 : Cond.methodLink "SheetRefsLaw" 86 yX9_count ∈ goodT := gtI 989 (by decide +kernel) (by decide +kernel)
theorem k_990 : Cond.instanceMethod yX9_count ∈ goodT := gtI 990 (by decide +kernel) (by decide +kernel)
theorem k_991 : Cond.selects "SheetRefsModel" yX9_count yX9_count ∈ goodT := gtI 991 (by decide +kernel) (by decide +kernel)
theorem k_992 : Cond.code yX9_count cX9_count 2 (some .int) ∈ goodT := gtI 992 (by decide +kernel) (by decide +kernel)
theorem k_993 : Cond.methodLink "SheetRefsModel" 228 yX9_countOf ∈ goodT := gtI 993 (by decide +kernel) (by decide +kernel)
theorem k_995 : Cond.instanceMethod yX9_countOf ∈ goodT := gtI 995 (by decide +kernel) (by decide +kernel)
theorem k_996 : Cond.code yX9_countOf cX9_countOf 5 (some .int) ∈ goodT := gtI 996 (by decide +kernel) (by decide +kernel)
theorem k_997 : Cond.methodLink "SheetRefsLaw" 90 yX9_told ∈ goodT := gtI 997 (by decide +kernel) (by decide +kernel)
theorem k_998 : Cond.instanceMethod yX9_told ∈ goodT := gtI 998 (by decide +kernel) (by decide +kernel)
theorem k_999 : Cond.selects "SheetRefsModel" yX9_told yX9_told ∈ goodT := gtI 999 (by decide +kernel) (by decide +kernel)
theorem k_1000 : Cond.code yX9_told cX9_told 2 (some .int) ∈ goodT := gtI 1000 (by decide +kernel) (by decide +kernel)
theorem k_1001 : Cond.methodLink "SheetRefsModel" 231 yX9_toldOf ∈ goodT := gtI 1001 (by decide +kernel) (by decide +kernel)
theorem k_1003 : Cond.instanceMethod yX9_toldOf ∈ goodT := gtI 1003 (by decide +kernel) (by decide +kernel)
theorem k_1004 : Cond.code yX9_toldOf cX9_toldOf 2 (some .int) ∈ goodT := gtI 1004 (by decide +kernel) (by decide +kernel)
theorem k_1005 : Cond.methodLink "SheetRefsLaw" 95 yX9_digest ∈ goodT := gtI 1005 (by decide +kernel) (by decide +kernel)
theorem k_1006 : Cond.instanceMethod yX9_digest ∈ goodT := gtI 1006 (by decide +kernel) (by decide +kernel)
theorem k_1007 : Cond.selects "SheetRefsModel" yX9_digest yX9_digest ∈ goodT := gtI 1007 (by decide +kernel) (by decide +kernel)
theorem k_1008 : Cond.code yX9_digest cX9_digest 4 (some .long) ∈ goodT := gtI 1008 (by decide +kernel) (by decide +kernel)
theorem k_1009 : Cond.constantLong "SheetRefsModel" 240 (1626 : Int64) ∈ goodT := gtI 1009 (by decide +kernel) (by decide +kernel)
theorem k_1010 : Cond.methodLink "SheetRefsModel" 242 yX9_mix ∈ goodT := gtI 1010 (by decide +kernel) (by decide +kernel)
theorem k_1012 : Cond.instanceMethod yX9_mix ∈ goodT := gtI 1012 (by decide +kernel) (by decide +kernel)
theorem k_1013 : Cond.code yX9_mix cX9_mix 3 none ∈ goodT := gtI 1013 (by decide +kernel) (by decide +kernel)
theorem k_1014 : Cond.constantLong "SheetRefsModel" 234 (31 : Int64) ∈ goodT := gtI 1014 (by decide +kernel) (by decide +kernel)
end
section
theorem dX0_init_0 : decode cX0_init 0 = .ok (.aload_n 0, 1) := by decide +kernel
theorem dX0_init_1 : decode cX0_init 1 = .ok (.invokespecial 3, 3) := by decide +kernel
theorem dX0_init_4 : decode cX0_init 4 = .ok (.aload_n 0, 1) := by decide +kernel
theorem dX0_init_5 : decode cX0_init 5 = .ok (.iload_n 1, 1) := by decide +kernel
theorem dX0_init_6 : decode cX0_init 6 = .ok (.putfield 9, 3) := by decide +kernel
theorem dX0_init_9 : decode cX0_init 9 = .ok (.aload_n 0, 1) := by decide +kernel
theorem dX0_init_10 : decode cX0_init 10 = .ok (.iload_n 2, 1) := by decide +kernel
theorem dX0_init_11 : decode cX0_init 11 = .ok (.putfield 15, 3) := by decide +kernel
theorem dX0_init_14 : decode cX0_init 14 = .ok (.aload_n 0, 1) := by decide +kernel
theorem dX0_init_15 : decode cX0_init 15 = .ok (.iload_n 3, 1) := by decide +kernel
theorem dX0_init_16 : decode cX0_init 16 = .ok (.putfield 18, 3) := by decide +kernel
theorem dX0_init_19 : decode cX0_init 19 = .ok (.aload_n 0, 1) := by decide +kernel
theorem dX0_init_20 : decode cX0_init 20 = .ok (.iload 4, 2) := by decide +kernel
theorem dX0_init_22 : decode cX0_init 22 = .ok (.putfield 21, 3) := by decide +kernel
theorem dX0_init_25 : decode cX0_init 25 = .ok (.return_, 1) := by decide +kernel
theorem dX0_size_0 : decode cX0_size 0 = .ok (.aload_n 0, 1) := by decide +kernel
theorem dX0_size_1 : decode cX0_size 1 = .ok (.getfield 18, 3) := by decide +kernel
theorem dX0_size_4 : decode cX0_size 4 = .ok (.aload_n 0, 1) := by decide +kernel
theorem dX0_size_5 : decode cX0_size 5 = .ok (.getfield 21, 3) := by decide +kernel
theorem dX0_size_8 : decode cX0_size 8 = .ok (.imul, 1) := by decide +kernel
theorem dX0_size_9 : decode cX0_size 9 = .ok (.ireturn, 1) := by decide +kernel
theorem dX0_cell_0 : decode cX0_cell 0 = .ok (.iload_n 1, 1) := by decide +kernel
theorem dX0_cell_1 : decode cX0_cell 1 = .ok (.ifCond .lt 19, 3) := by decide +kernel
theorem dX0_cell_4 : decode cX0_cell 4 = .ok (.iload_n 1, 1) := by decide +kernel
theorem dX0_cell_5 : decode cX0_cell 5 = .ok (.aload_n 0, 1) := by decide +kernel
theorem dX0_cell_6 : decode cX0_cell 6 = .ok (.invokevirtual 24, 3) := by decide +kernel
theorem dX0_cell_9 : decode cX0_cell 9 = .ok (.if_icmp .ge 11, 3) := by decide +kernel
theorem dX0_cell_12 : decode cX0_cell 12 = .ok (.aload_n 0, 1) := by decide +kernel
theorem dX0_cell_13 : decode cX0_cell 13 = .ok (.getfield 18, 3) := by decide +kernel
theorem dX0_cell_16 : decode cX0_cell 16 = .ok (.iconst 1, 1) := by decide +kernel
theorem dX0_cell_17 : decode cX0_cell 17 = .ok (.if_icmp .ge 5, 3) := by decide +kernel
theorem dX0_cell_20 : decode cX0_cell 20 = .ok (.iconst (-1), 1) := by decide +kernel
theorem dX0_cell_21 : decode cX0_cell 21 = .ok (.ireturn, 1) := by decide +kernel
theorem dX0_cell_22 : decode cX0_cell 22 = .ok (.aload_n 0, 1) := by decide +kernel
theorem dX0_cell_23 : decode cX0_cell 23 = .ok (.getfield 9, 3) := by decide +kernel
theorem dX0_cell_26 : decode cX0_cell 26 = .ok (.iload_n 1, 1) := by decide +kernel
theorem dX0_cell_27 : decode cX0_cell 27 = .ok (.aload_n 0, 1) := by decide +kernel
theorem dX0_cell_28 : decode cX0_cell 28 = .ok (.getfield 18, 3) := by decide +kernel
theorem dX0_cell_31 : decode cX0_cell 31 = .ok (.irem, 1) := by decide +kernel
theorem dX0_cell_32 : decode cX0_cell 32 = .ok (.iadd, 1) := by decide +kernel
theorem dX0_cell_33 : decode cX0_cell 33 = .ok (.aload_n 0, 1) := by decide +kernel
theorem dX0_cell_34 : decode cX0_cell 34 = .ok (.getfield 15, 3) := by decide +kernel
theorem dX0_cell_37 : decode cX0_cell 37 = .ok (.iload_n 1, 1) := by decide +kernel
theorem dX0_cell_38 : decode cX0_cell 38 = .ok (.aload_n 0, 1) := by decide +kernel
theorem dX0_cell_39 : decode cX0_cell 39 = .ok (.getfield 18, 3) := by decide +kernel
theorem dX0_cell_42 : decode cX0_cell 42 = .ok (.idiv, 1) := by decide +kernel
theorem dX0_cell_43 : decode cX0_cell 43 = .ok (.iadd, 1) := by decide +kernel
theorem dX0_cell_44 : decode cX0_cell 44 = .ok (.invokestatic 28, 3) := by decide +kernel
theorem dX0_cell_47 : decode cX0_cell 47 = .ok (.ireturn, 1) := by decide +kernel
theorem dX0_holds_0 : decode cX0_holds 0 = .ok (.iload_n 1, 1) := by decide +kernel
theorem dX0_holds_1 : decode cX0_holds 1 = .ok (.iconst 0, 1) := by decide +kernel
theorem dX0_holds_2 : decode cX0_holds 2 = .ok (.invokestatic 32, 3) := by decide +kernel
theorem dX0_holds_5 : decode cX0_holds 5 = .ok (.aload_n 0, 1) := by decide +kernel
theorem dX0_holds_6 : decode cX0_holds 6 = .ok (.getfield 9, 3) := by decide +kernel
theorem dX0_holds_9 : decode cX0_holds 9 = .ok (.if_icmp .lt 53, 3) := by decide +kernel
theorem dX0_holds_12 : decode cX0_holds 12 = .ok (.iload_n 1, 1) := by decide +kernel
theorem dX0_holds_13 : decode cX0_holds 13 = .ok (.iconst 0, 1) := by decide +kernel
theorem dX0_holds_14 : decode cX0_holds 14 = .ok (.invokestatic 37, 3) := by decide +kernel
theorem dX0_holds_17 : decode cX0_holds 17 = .ok (.aload_n 0, 1) := by decide +kernel
theorem dX0_holds_18 : decode cX0_holds 18 = .ok (.getfield 9, 3) := by decide +kernel
theorem dX0_holds_21 : decode cX0_holds 21 = .ok (.aload_n 0, 1) := by decide +kernel
theorem dX0_holds_22 : decode cX0_holds 22 = .ok (.getfield 18, 3) := by decide +kernel
theorem dX0_holds_25 : decode cX0_holds 25 = .ok (.iadd, 1) := by decide +kernel
theorem dX0_holds_26 : decode cX0_holds 26 = .ok (.if_icmp .ge 36, 3) := by decide +kernel
theorem dX0_holds_29 : decode cX0_holds 29 = .ok (.iload_n 1, 1) := by decide +kernel
theorem dX0_holds_30 : decode cX0_holds 30 = .ok (.iconst 1, 1) := by decide +kernel
theorem dX0_holds_31 : decode cX0_holds 31 = .ok (.invokestatic 32, 3) := by decide +kernel
theorem dX0_holds_34 : decode cX0_holds 34 = .ok (.aload_n 0, 1) := by decide +kernel
theorem dX0_holds_35 : decode cX0_holds 35 = .ok (.getfield 15, 3) := by decide +kernel
theorem dX0_holds_38 : decode cX0_holds 38 = .ok (.if_icmp .lt 24, 3) := by decide +kernel
theorem dX0_holds_41 : decode cX0_holds 41 = .ok (.iload_n 1, 1) := by decide +kernel
theorem dX0_holds_42 : decode cX0_holds 42 = .ok (.iconst 1, 1) := by decide +kernel
theorem dX0_holds_43 : decode cX0_holds 43 = .ok (.invokestatic 37, 3) := by decide +kernel
theorem dX0_holds_46 : decode cX0_holds 46 = .ok (.aload_n 0, 1) := by decide +kernel
theorem dX0_holds_47 : decode cX0_holds 47 = .ok (.getfield 15, 3) := by decide +kernel
theorem dX0_holds_50 : decode cX0_holds 50 = .ok (.aload_n 0, 1) := by decide +kernel
theorem dX0_holds_51 : decode cX0_holds 51 = .ok (.getfield 21, 3) := by decide +kernel
theorem dX0_holds_54 : decode cX0_holds 54 = .ok (.iadd, 1) := by decide +kernel
theorem dX0_holds_55 : decode cX0_holds 55 = .ok (.if_icmp .ge 7, 3) := by decide +kernel
theorem dX0_holds_58 : decode cX0_holds 58 = .ok (.iconst 1, 1) := by decide +kernel
theorem dX0_holds_59 : decode cX0_holds 59 = .ok (.goto 4, 3) := by decide +kernel
theorem dX0_holds_62 : decode cX0_holds 62 = .ok (.iconst 0, 1) := by decide +kernel
theorem dX0_holds_63 : decode cX0_holds 63 = .ok (.ireturn, 1) := by decide +kernel
theorem dX1_init_0 : decode cX1_init 0 = .ok (.aload_n 0, 1) := by decide +kernel
theorem dX1_init_1 : decode cX1_init 1 = .ok (.invokespecial 3, 3) := by decide +kernel
theorem dX1_init_4 : decode cX1_init 4 = .ok (.aload_n 0, 1) := by decide +kernel
theorem dX1_init_5 : decode cX1_init 5 = .ok (.bipush 39, 2) := by decide +kernel
theorem dX1_init_7 : decode cX1_init 7 = .ok (.newarray .int, 2) := by decide +kernel
theorem dX1_init_9 : decode cX1_init 9 = .ok (.putfield 11, 3) := by decide +kernel
theorem dX1_init_12 : decode cX1_init 12 = .ok (.return_, 1) := by decide +kernel
theorem dX1_letterAt_0 : decode cX1_letterAt 0 = .ok (.iload_n 1, 1) := by decide +kernel
theorem dX1_letterAt_1 : decode cX1_letterAt 1 = .ok (.ifCond .lt 20, 3) := by decide +kernel
theorem dX1_letterAt_4 : decode cX1_letterAt 4 = .ok (.iload_n 1, 1) := by decide +kernel
theorem dX1_letterAt_5 : decode cX1_letterAt 5 = .ok (.aload_n 0, 1) := by decide +kernel
theorem dX1_letterAt_6 : decode cX1_letterAt 6 = .ok (.getfield 15, 3) := by decide +kernel
theorem dX1_letterAt_9 : decode cX1_letterAt 9 = .ok (.if_icmp .ge 12, 3) := by decide +kernel
theorem dX1_letterAt_12 : decode cX1_letterAt 12 = .ok (.aload_n 0, 1) := by decide +kernel
theorem dX1_letterAt_13 : decode cX1_letterAt 13 = .ok (.getfield 11, 3) := by decide +kernel
theorem dX1_letterAt_16 : decode cX1_letterAt 16 = .ok (.iload_n 1, 1) := by decide +kernel
theorem dX1_letterAt_17 : decode cX1_letterAt 17 = .ok (.iaload, 1) := by decide +kernel
theorem dX1_letterAt_18 : decode cX1_letterAt 18 = .ok (.goto 4, 3) := by decide +kernel
theorem dX1_letterAt_21 : decode cX1_letterAt 21 = .ok (.iconst (-1), 1) := by decide +kernel
theorem dX1_letterAt_22 : decode cX1_letterAt 22 = .ok (.ireturn, 1) := by decide +kernel
theorem dX1_write_0 : decode cX1_write 0 = .ok (.aload_n 0, 1) := by decide +kernel
theorem dX1_write_1 : decode cX1_write 1 = .ok (.iconst 0, 1) := by decide +kernel
theorem dX1_write_2 : decode cX1_write 2 = .ok (.putfield 15, 3) := by decide +kernel
theorem dX1_write_5 : decode cX1_write 5 = .ok (.aload_n 1, 1) := by decide +kernel
theorem dX1_write_6 : decode cX1_write 6 = .ok (.iload_n 2, 1) := by decide +kernel
theorem dX1_write_7 : decode cX1_write 7 = .ok (.invokevirtual 19, 3) := by decide +kernel
theorem dX1_write_10 : decode cX1_write 10 = .ok (.istore_n 3, 1) := by decide +kernel
theorem dX1_write_11 : decode cX1_write 11 = .ok (.iconst 0, 1) := by decide +kernel
theorem dX1_write_12 : decode cX1_write 12 = .ok (.istore 4, 2) := by decide +kernel
theorem dX1_write_14 : decode cX1_write 14 = .ok (.iload 4, 2) := by decide +kernel
theorem dX1_write_16 : decode cX1_write 16 = .ok (.iload_n 3, 1) := by decide +kernel
theorem dX1_write_17 : decode cX1_write 17 = .ok (.if_icmp .ge 31, 3) := by decide +kernel
theorem dX1_write_20 : decode cX1_write 20 = .ok (.iload 4, 2) := by decide +kernel
theorem dX1_write_22 : decode cX1_write 22 = .ok (.ifCond .le 9, 3) := by decide +kernel
theorem dX1_write_25 : decode cX1_write 25 = .ok (.aload_n 0, 1) := by decide +kernel
theorem dX1_write_26 : decode cX1_write 26 = .ok (.bipush 43, 2) := by decide +kernel
theorem dX1_write_28 : decode cX1_write 28 = .ok (.invokevirtual 25, 3) := by decide +kernel
theorem dX1_write_31 : decode cX1_write 31 = .ok (.aload_n 0, 1) := by decide +kernel
theorem dX1_write_32 : decode cX1_write 32 = .ok (.aload_n 1, 1) := by decide +kernel
theorem dX1_write_33 : decode cX1_write 33 = .ok (.iload_n 2, 1) := by decide +kernel
theorem dX1_write_34 : decode cX1_write 34 = .ok (.iload 4, 2) := by decide +kernel
theorem dX1_write_36 : decode cX1_write 36 = .ok (.invokevirtual 29, 3) := by decide +kernel
theorem dX1_write_39 : decode cX1_write 39 = .ok (.invokevirtual 33, 3) := by decide +kernel
theorem dX1_write_42 : decode cX1_write 42 = .ok (.iinc 4 1, 3) := by decide +kernel
theorem dX1_write_45 : decode cX1_write 45 = .ok (.goto (-31), 3) := by decide +kernel
theorem dX1_write_48 : decode cX1_write 48 = .ok (.return_, 1) := by decide +kernel
theorem dX1_writeTerm_0 : decode cX1_writeTerm 0 = .ok (.iload_n 1, 1) := by decide +kernel
theorem dX1_writeTerm_1 : decode cX1_writeTerm 1 = .ok (.invokestatic 36, 3) := by decide +kernel
theorem dX1_writeTerm_4 : decode cX1_writeTerm 4 = .ok (.tableswitch 69 1 3 #[28, 39, 48], 28) := by decide +kernel
theorem dX1_writeTerm_32 : decode cX1_writeTerm 32 = .ok (.aload_n 0, 1) := by decide +kernel
theorem dX1_writeTerm_33 : decode cX1_writeTerm 33 = .ok (.iload_n 1, 1) := by decide +kernel
theorem dX1_writeTerm_34 : decode cX1_writeTerm 34 = .ok (.invokestatic 41, 3) := by decide +kernel
theorem dX1_writeTerm_37 : decode cX1_writeTerm 37 = .ok (.invokevirtual 44, 3) := by decide +kernel
theorem dX1_writeTerm_40 : decode cX1_writeTerm 40 = .ok (.goto 39, 3) := by decide +kernel
theorem dX1_writeTerm_43 : decode cX1_writeTerm 43 = .ok (.aload_n 0, 1) := by decide +kernel
theorem dX1_writeTerm_44 : decode cX1_writeTerm 44 = .ok (.iload_n 1, 1) := by decide +kernel
theorem dX1_writeTerm_45 : decode cX1_writeTerm 45 = .ok (.iconst 0, 1) := by decide +kernel
theorem dX1_writeTerm_46 : decode cX1_writeTerm 46 = .ok (.invokevirtual 47, 3) := by decide +kernel
theorem dX1_writeTerm_49 : decode cX1_writeTerm 49 = .ok (.goto 30, 3) := by decide +kernel
theorem dX1_writeTerm_52 : decode cX1_writeTerm 52 = .ok (.aload_n 0, 1) := by decide +kernel
theorem dX1_writeTerm_53 : decode cX1_writeTerm 53 = .ok (.iload_n 1, 1) := by decide +kernel
theorem dX1_writeTerm_54 : decode cX1_writeTerm 54 = .ok (.iconst 0, 1) := by decide +kernel
theorem dX1_writeTerm_55 : decode cX1_writeTerm 55 = .ok (.invokevirtual 47, 3) := by decide +kernel
theorem dX1_writeTerm_58 : decode cX1_writeTerm 58 = .ok (.aload_n 0, 1) := by decide +kernel
theorem dX1_writeTerm_59 : decode cX1_writeTerm 59 = .ok (.bipush 58, 2) := by decide +kernel
theorem dX1_writeTerm_61 : decode cX1_writeTerm 61 = .ok (.invokevirtual 25, 3) := by decide +kernel
theorem dX1_writeTerm_64 : decode cX1_writeTerm 64 = .ok (.aload_n 0, 1) := by decide +kernel
theorem dX1_writeTerm_65 : decode cX1_writeTerm 65 = .ok (.iload_n 1, 1) := by decide +kernel
theorem dX1_writeTerm_66 : decode cX1_writeTerm 66 = .ok (.iconst 2, 1) := by decide +kernel
theorem dX1_writeTerm_67 : decode cX1_writeTerm 67 = .ok (.invokevirtual 47, 3) := by decide +kernel
theorem dX1_writeTerm_70 : decode cX1_writeTerm 70 = .ok (.goto 9, 3) := by decide +kernel
theorem dX1_writeTerm_73 : decode cX1_writeTerm 73 = .ok (.aload_n 0, 1) := by decide +kernel
theorem dX1_writeTerm_74 : decode cX1_writeTerm 74 = .ok (.bipush 35, 2) := by decide +kernel
theorem dX1_writeTerm_76 : decode cX1_writeTerm 76 = .ok (.invokevirtual 25, 3) := by decide +kernel
theorem dX1_writeTerm_79 : decode cX1_writeTerm 79 = .ok (.return_, 1) := by decide +kernel
theorem dX1_writeNumber_0 : decode cX1_writeNumber 0 = .ok (.iload_n 1, 1) := by decide +kernel
theorem dX1_writeNumber_1 : decode cX1_writeNumber 1 = .ok (.bipush 100, 2) := by decide +kernel
theorem dX1_writeNumber_3 : decode cX1_writeNumber 3 = .ok (.if_icmp .lt 14, 3) := by decide +kernel
theorem dX1_writeNumber_6 : decode cX1_writeNumber 6 = .ok (.aload_n 0, 1) := by decide +kernel
theorem dX1_writeNumber_7 : decode cX1_writeNumber 7 = .ok (.bipush 48, 2) := by decide +kernel
theorem dX1_writeNumber_9 : decode cX1_writeNumber 9 = .ok (.iload_n 1, 1) := by decide +kernel
theorem dX1_writeNumber_10 : decode cX1_writeNumber 10 = .ok (.bipush 100, 2) := by decide +kernel
theorem dX1_writeNumber_12 : decode cX1_writeNumber 12 = .ok (.idiv, 1) := by decide +kernel
theorem dX1_writeNumber_13 : decode cX1_writeNumber 13 = .ok (.iadd, 1) := by decide +kernel
theorem dX1_writeNumber_14 : decode cX1_writeNumber 14 = .ok (.invokevirtual 25, 3) := by decide +kernel
theorem dX1_writeNumber_17 : decode cX1_writeNumber 17 = .ok (.iload_n 1, 1) := by decide +kernel
theorem dX1_writeNumber_18 : decode cX1_writeNumber 18 = .ok (.bipush 10, 2) := by decide +kernel
theorem dX1_writeNumber_20 : decode cX1_writeNumber 20 = .ok (.if_icmp .lt 17, 3) := by decide +kernel
theorem dX1_writeNumber_23 : decode cX1_writeNumber 23 = .ok (.aload_n 0, 1) := by decide +kernel
theorem dX1_writeNumber_24 : decode cX1_writeNumber 24 = .ok (.bipush 48, 2) := by decide +kernel
theorem dX1_writeNumber_26 : decode cX1_writeNumber 26 = .ok (.iload_n 1, 1) := by decide +kernel
theorem dX1_writeNumber_27 : decode cX1_writeNumber 27 = .ok (.bipush 10, 2) := by decide +kernel
theorem dX1_writeNumber_29 : decode cX1_writeNumber 29 = .ok (.idiv, 1) := by decide +kernel
theorem dX1_writeNumber_30 : decode cX1_writeNumber 30 = .ok (.bipush 10, 2) := by decide +kernel
theorem dX1_writeNumber_32 : decode cX1_writeNumber 32 = .ok (.irem, 1) := by decide +kernel
theorem dX1_writeNumber_33 : decode cX1_writeNumber 33 = .ok (.iadd, 1) := by decide +kernel
theorem dX1_writeNumber_34 : decode cX1_writeNumber 34 = .ok (.invokevirtual 25, 3) := by decide +kernel
theorem dX1_writeNumber_37 : decode cX1_writeNumber 37 = .ok (.aload_n 0, 1) := by decide +kernel
theorem dX1_writeNumber_38 : decode cX1_writeNumber 38 = .ok (.bipush 48, 2) := by decide +kernel
theorem dX1_writeNumber_40 : decode cX1_writeNumber 40 = .ok (.iload_n 1, 1) := by decide +kernel
theorem dX1_writeNumber_41 : decode cX1_writeNumber 41 = .ok (.bipush 10, 2) := by decide +kernel
theorem dX1_writeNumber_43 : decode cX1_writeNumber 43 = .ok (.irem, 1) := by decide +kernel
theorem dX1_writeNumber_44 : decode cX1_writeNumber 44 = .ok (.iadd, 1) := by decide +kernel
theorem dX1_writeNumber_45 : decode cX1_writeNumber 45 = .ok (.invokevirtual 25, 3) := by decide +kernel
theorem dX1_writeNumber_48 : decode cX1_writeNumber 48 = .ok (.return_, 1) := by decide +kernel
theorem dX1_writePlace_0 : decode cX1_writePlace 0 = .ok (.iload_n 1, 1) := by decide +kernel
theorem dX1_writePlace_1 : decode cX1_writePlace 1 = .ok (.invokestatic 51, 3) := by decide +kernel
theorem dX1_writePlace_4 : decode cX1_writePlace 4 = .ok (.iload_n 2, 1) := by decide +kernel
theorem dX1_writePlace_5 : decode cX1_writePlace 5 = .ok (.ishr, 1) := by decide +kernel
theorem dX1_writePlace_6 : decode cX1_writePlace 6 = .ok (.istore_n 3, 1) := by decide +kernel
theorem dX1_writePlace_7 : decode cX1_writePlace 7 = .ok (.iload_n 3, 1) := by decide +kernel
theorem dX1_writePlace_8 : decode cX1_writePlace 8 = .ok (.iconst 1, 1) := by decide +kernel
theorem dX1_writePlace_9 : decode cX1_writePlace 9 = .ok (.iand, 1) := by decide +kernel
theorem dX1_writePlace_10 : decode cX1_writePlace 10 = .ok (.ifCond .eq 9, 3) := by decide +kernel
theorem dX1_writePlace_13 : decode cX1_writePlace 13 = .ok (.aload_n 0, 1) := by decide +kernel
theorem dX1_writePlace_14 : decode cX1_writePlace 14 = .ok (.bipush 36, 2) := by decide +kernel
theorem dX1_writePlace_16 : decode cX1_writePlace 16 = .ok (.invokevirtual 25, 3) := by decide +kernel
theorem dX1_writePlace_19 : decode cX1_writePlace 19 = .ok (.aload_n 0, 1) := by decide +kernel
theorem dX1_writePlace_20 : decode cX1_writePlace 20 = .ok (.bipush 65, 2) := by decide +kernel
theorem dX1_writePlace_22 : decode cX1_writePlace 22 = .ok (.iload_n 1, 1) := by decide +kernel
theorem dX1_writePlace_23 : decode cX1_writePlace 23 = .ok (.iload_n 2, 1) := by decide +kernel
theorem dX1_writePlace_24 : decode cX1_writePlace 24 = .ok (.invokestatic 54, 3) := by decide +kernel
theorem dX1_writePlace_27 : decode cX1_writePlace 27 = .ok (.iadd, 1) := by decide +kernel
theorem dX1_writePlace_28 : decode cX1_writePlace 28 = .ok (.invokevirtual 25, 3) := by decide +kernel
theorem dX1_writePlace_31 : decode cX1_writePlace 31 = .ok (.iload_n 3, 1) := by decide +kernel
theorem dX1_writePlace_32 : decode cX1_writePlace 32 = .ok (.iconst 2, 1) := by decide +kernel
theorem dX1_writePlace_33 : decode cX1_writePlace 33 = .ok (.iand, 1) := by decide +kernel
theorem dX1_writePlace_34 : decode cX1_writePlace 34 = .ok (.ifCond .eq 9, 3) := by decide +kernel
theorem dX1_writePlace_37 : decode cX1_writePlace 37 = .ok (.aload_n 0, 1) := by decide +kernel
theorem dX1_writePlace_38 : decode cX1_writePlace 38 = .ok (.bipush 36, 2) := by decide +kernel
theorem dX1_writePlace_40 : decode cX1_writePlace 40 = .ok (.invokevirtual 25, 3) := by decide +kernel
theorem dX1_writePlace_43 : decode cX1_writePlace 43 = .ok (.aload_n 0, 1) := by decide +kernel
theorem dX1_writePlace_44 : decode cX1_writePlace 44 = .ok (.bipush 49, 2) := by decide +kernel
theorem dX1_writePlace_46 : decode cX1_writePlace 46 = .ok (.iload_n 1, 1) := by decide +kernel
theorem dX1_writePlace_47 : decode cX1_writePlace 47 = .ok (.iload_n 2, 1) := by decide +kernel
theorem dX1_writePlace_48 : decode cX1_writePlace 48 = .ok (.iconst 1, 1) := by decide +kernel
theorem dX1_writePlace_49 : decode cX1_writePlace 49 = .ok (.iadd, 1) := by decide +kernel
theorem dX1_writePlace_50 : decode cX1_writePlace 50 = .ok (.invokestatic 54, 3) := by decide +kernel
theorem dX1_writePlace_53 : decode cX1_writePlace 53 = .ok (.iadd, 1) := by decide +kernel
theorem dX1_writePlace_54 : decode cX1_writePlace 54 = .ok (.invokevirtual 25, 3) := by decide +kernel
theorem dX1_writePlace_57 : decode cX1_writePlace 57 = .ok (.return_, 1) := by decide +kernel
theorem dX1_add_0 : decode cX1_add 0 = .ok (.aload_n 0, 1) := by decide +kernel
theorem dX1_add_1 : decode cX1_add 1 = .ok (.getfield 15, 3) := by decide +kernel
theorem dX1_add_4 : decode cX1_add 4 = .ok (.bipush 39, 2) := by decide +kernel
theorem dX1_add_6 : decode cX1_add 6 = .ok (.if_icmp .ge 23, 3) := by decide +kernel
theorem dX1_add_9 : decode cX1_add 9 = .ok (.aload_n 0, 1) := by decide +kernel
theorem dX1_add_10 : decode cX1_add 10 = .ok (.getfield 11, 3) := by decide +kernel
theorem dX1_add_13 : decode cX1_add 13 = .ok (.aload_n 0, 1) := by decide +kernel
theorem dX1_add_14 : decode cX1_add 14 = .ok (.getfield 15, 3) := by decide +kernel
theorem dX1_add_17 : decode cX1_add 17 = .ok (.iload_n 1, 1) := by decide +kernel
theorem dX1_add_18 : decode cX1_add 18 = .ok (.iastore, 1) := by decide +kernel
theorem dX1_add_19 : decode cX1_add 19 = .ok (.aload_n 0, 1) := by decide +kernel
theorem dX1_add_20 : decode cX1_add 20 = .ok (.dup, 1) := by decide +kernel
theorem dX1_add_21 : decode cX1_add 21 = .ok (.getfield 15, 3) := by decide +kernel
theorem dX1_add_24 : decode cX1_add 24 = .ok (.iconst 1, 1) := by decide +kernel
theorem dX1_add_25 : decode cX1_add 25 = .ok (.iadd, 1) := by decide +kernel
theorem dX1_add_26 : decode cX1_add 26 = .ok (.putfield 15, 3) := by decide +kernel
theorem dX1_add_29 : decode cX1_add 29 = .ok (.return_, 1) := by decide +kernel
theorem dX2_init_0 : decode cX2_init 0 = .ok (.aload_n 0, 1) := by decide +kernel
theorem dX2_init_1 : decode cX2_init 1 = .ok (.invokespecial 3, 3) := by decide +kernel
theorem dX2_init_4 : decode cX2_init 4 = .ok (.aload_n 0, 1) := by decide +kernel
theorem dX2_init_5 : decode cX2_init 5 = .ok (.sipush 864, 3) := by decide +kernel
theorem dX2_init_8 : decode cX2_init 8 = .ok (.newarray .int, 2) := by decide +kernel
theorem dX2_init_10 : decode cX2_init 10 = .ok (.putfield 11, 3) := by decide +kernel
theorem dX2_init_13 : decode cX2_init 13 = .ok (.return_, 1) := by decide +kernel
theorem dX2_keep_0 : decode cX2_keep 0 = .ok (.aload_n 1, 1) := by decide +kernel
theorem dX2_keep_1 : decode cX2_keep 1 = .ok (.getfield 15, 3) := by decide +kernel
theorem dX2_keep_4 : decode cX2_keep 4 = .ok (.iconst 0, 1) := by decide +kernel
theorem dX2_keep_5 : decode cX2_keep 5 = .ok (.aload_n 0, 1) := by decide +kernel
theorem dX2_keep_6 : decode cX2_keep 6 = .ok (.getfield 11, 3) := by decide +kernel
theorem dX2_keep_9 : decode cX2_keep 9 = .ok (.aload_n 0, 1) := by decide +kernel
theorem dX2_keep_10 : decode cX2_keep 10 = .ok (.getfield 20, 3) := by decide +kernel
theorem dX2_keep_13 : decode cX2_keep 13 = .ok (.sipush 144, 3) := by decide +kernel
theorem dX2_keep_16 : decode cX2_keep 16 = .ok (.imul, 1) := by decide +kernel
theorem dX2_keep_17 : decode cX2_keep 17 = .ok (.sipush 144, 3) := by decide +kernel
theorem dX2_keep_20 : decode cX2_keep 20 = .ok (.invokestatic 24, 3) := by decide +kernel
theorem dX2_keep_23 : decode cX2_keep 23 = .ok (.aload_n 0, 1) := by decide +kernel
theorem dX2_keep_24 : decode cX2_keep 24 = .ok (.aload_n 0, 1) := by decide +kernel
theorem dX2_keep_25 : decode cX2_keep 25 = .ok (.getfield 20, 3) := by decide +kernel
theorem dX2_keep_28 : decode cX2_keep 28 = .ok (.iconst 1, 1) := by decide +kernel
theorem dX2_keep_29 : decode cX2_keep 29 = .ok (.iadd, 1) := by decide +kernel
theorem dX2_keep_30 : decode cX2_keep 30 = .ok (.bipush 6, 2) := by decide +kernel
theorem dX2_keep_32 : decode cX2_keep 32 = .ok (.irem, 1) := by decide +kernel
theorem dX2_keep_33 : decode cX2_keep 33 = .ok (.putfield 20, 3) := by decide +kernel
theorem dX2_keep_36 : decode cX2_keep 36 = .ok (.aload_n 0, 1) := by decide +kernel
theorem dX2_keep_37 : decode cX2_keep 37 = .ok (.aload_n 0, 1) := by decide +kernel
theorem dX2_keep_38 : decode cX2_keep 38 = .ok (.getfield 30, 3) := by decide +kernel
theorem dX2_keep_41 : decode cX2_keep 41 = .ok (.iconst 1, 1) := by decide +kernel
theorem dX2_keep_42 : decode cX2_keep 42 = .ok (.iadd, 1) := by decide +kernel
theorem dX2_keep_43 : decode cX2_keep 43 = .ok (.bipush 6, 2) := by decide +kernel
theorem dX2_keep_45 : decode cX2_keep 45 = .ok (.invokestatic 33, 3) := by decide +kernel
theorem dX2_keep_48 : decode cX2_keep 48 = .ok (.putfield 30, 3) := by decide +kernel
theorem dX2_keep_51 : decode cX2_keep 51 = .ok (.return_, 1) := by decide +kernel
theorem dX2_restore_0 : decode cX2_restore 0 = .ok (.aload_n 0, 1) := by decide +kernel
theorem dX2_restore_1 : decode cX2_restore 1 = .ok (.getfield 30, 3) := by decide +kernel
theorem dX2_restore_4 : decode cX2_restore 4 = .ok (.ifCond .ne 4, 3) := by decide +kernel
theorem dX2_restore_7 : decode cX2_restore 7 = .ok (.return_, 1) := by decide +kernel
theorem dX2_restore_8 : decode cX2_restore 8 = .ok (.aload_n 0, 1) := by decide +kernel
theorem dX2_restore_9 : decode cX2_restore 9 = .ok (.aload_n 0, 1) := by decide +kernel
theorem dX2_restore_10 : decode cX2_restore 10 = .ok (.getfield 20, 3) := by decide +kernel
theorem dX2_restore_13 : decode cX2_restore 13 = .ok (.bipush 6, 2) := by decide +kernel
theorem dX2_restore_15 : decode cX2_restore 15 = .ok (.iadd, 1) := by decide +kernel
theorem dX2_restore_16 : decode cX2_restore 16 = .ok (.iconst 1, 1) := by decide +kernel
theorem dX2_restore_17 : decode cX2_restore 17 = .ok (.isub, 1) := by decide +kernel
theorem dX2_restore_18 : decode cX2_restore 18 = .ok (.bipush 6, 2) := by decide +kernel
theorem dX2_restore_20 : decode cX2_restore 20 = .ok (.irem, 1) := by decide +kernel
theorem dX2_restore_21 : decode cX2_restore 21 = .ok (.putfield 20, 3) := by decide +kernel
theorem dX2_restore_24 : decode cX2_restore 24 = .ok (.aload_n 0, 1) := by decide +kernel
theorem dX2_restore_25 : decode cX2_restore 25 = .ok (.dup, 1) := by decide +kernel
theorem dX2_restore_26 : decode cX2_restore 26 = .ok (.getfield 30, 3) := by decide +kernel
theorem dX2_restore_29 : decode cX2_restore 29 = .ok (.iconst 1, 1) := by decide +kernel
theorem dX2_restore_30 : decode cX2_restore 30 = .ok (.isub, 1) := by decide +kernel
theorem dX2_restore_31 : decode cX2_restore 31 = .ok (.putfield 30, 3) := by decide +kernel
theorem dX2_restore_34 : decode cX2_restore 34 = .ok (.aload_n 0, 1) := by decide +kernel
theorem dX2_restore_35 : decode cX2_restore 35 = .ok (.getfield 11, 3) := by decide +kernel
theorem dX2_restore_38 : decode cX2_restore 38 = .ok (.aload_n 0, 1) := by decide +kernel
theorem dX2_restore_39 : decode cX2_restore 39 = .ok (.getfield 20, 3) := by decide +kernel
theorem dX2_restore_42 : decode cX2_restore 42 = .ok (.sipush 144, 3) := by decide +kernel
theorem dX2_restore_45 : decode cX2_restore 45 = .ok (.imul, 1) := by decide +kernel
theorem dX2_restore_46 : decode cX2_restore 46 = .ok (.aload_n 1, 1) := by decide +kernel
theorem dX2_restore_47 : decode cX2_restore 47 = .ok (.getfield 15, 3) := by decide +kernel
theorem dX2_restore_50 : decode cX2_restore 50 = .ok (.iconst 0, 1) := by decide +kernel
theorem dX2_restore_51 : decode cX2_restore 51 = .ok (.sipush 144, 3) := by decide +kernel
theorem dX2_restore_54 : decode cX2_restore 54 = .ok (.invokestatic 24, 3) := by decide +kernel
theorem dX2_restore_57 : decode cX2_restore 57 = .ok (.return_, 1) := by decide +kernel
theorem dX3_init_0 : decode cX3_init 0 = .ok (.aload_n 0, 1) := by decide +kernel
theorem dX3_init_1 : decode cX3_init 1 = .ok (.invokespecial 3, 3) := by decide +kernel
theorem dX3_init_4 : decode cX3_init 4 = .ok (.aload_n 0, 1) := by decide +kernel
theorem dX3_init_5 : decode cX3_init 5 = .ok (.iconst 4, 1) := by decide +kernel
theorem dX3_init_6 : decode cX3_init 6 = .ok (.newarray .int, 2) := by decide +kernel
theorem dX3_init_8 : decode cX3_init 8 = .ok (.putfield 9, 3) := by decide +kernel
theorem dX3_init_11 : decode cX3_init 11 = .ok (.aload_n 0, 1) := by decide +kernel
theorem dX3_init_12 : decode cX3_init 12 = .ok (.aload_n 1, 1) := by decide +kernel
theorem dX3_init_13 : decode cX3_init 13 = .ok (.putfield 15, 3) := by decide +kernel
theorem dX3_init_16 : decode cX3_init 16 = .ok (.return_, 1) := by decide +kernel
theorem dX3_read_0 : decode cX3_read 0 = .ok (.aload_n 0, 1) := by decide +kernel
theorem dX3_read_1 : decode cX3_read 1 = .ok (.getfield 9, 3) := by decide +kernel
theorem dX3_read_4 : decode cX3_read 4 = .ok (.iconst 0, 1) := by decide +kernel
theorem dX3_read_5 : decode cX3_read 5 = .ok (.invokestatic 21, 3) := by decide +kernel
theorem dX3_read_8 : decode cX3_read 8 = .ok (.aload_n 0, 1) := by decide +kernel
theorem dX3_read_9 : decode cX3_read 9 = .ok (.iconst 0, 1) := by decide +kernel
theorem dX3_read_10 : decode cX3_read 10 = .ok (.putfield 27, 3) := by decide +kernel
theorem dX3_read_13 : decode cX3_read 13 = .ok (.iconst 0, 1) := by decide +kernel
theorem dX3_read_14 : decode cX3_read 14 = .ok (.istore_n 1, 1) := by decide +kernel
theorem dX3_read_15 : decode cX3_read 15 = .ok (.iconst 1, 1) := by decide +kernel
theorem dX3_read_16 : decode cX3_read 16 = .ok (.istore_n 2, 1) := by decide +kernel
theorem dX3_read_17 : decode cX3_read 17 = .ok (.iload_n 2, 1) := by decide +kernel
theorem dX3_read_18 : decode cX3_read 18 = .ok (.ifCond .eq 39, 3) := by decide +kernel
theorem dX3_read_21 : decode cX3_read 21 = .ok (.iload_n 1, 1) := by decide +kernel
theorem dX3_read_22 : decode cX3_read 22 = .ok (.iconst 4, 1) := by decide +kernel
theorem dX3_read_23 : decode cX3_read 23 = .ok (.if_icmp .ge 34, 3) := by decide +kernel
theorem dX3_read_26 : decode cX3_read 26 = .ok (.aload_n 0, 1) := by decide +kernel
theorem dX3_read_27 : decode cX3_read 27 = .ok (.invokevirtual 31, 3) := by decide +kernel
theorem dX3_read_30 : decode cX3_read 30 = .ok (.istore_n 3, 1) := by decide +kernel
theorem dX3_read_31 : decode cX3_read 31 = .ok (.iload_n 3, 1) := by decide +kernel
theorem dX3_read_32 : decode cX3_read 32 = .ok (.ifCond .ne 5, 3) := by decide +kernel
theorem dX3_read_35 : decode cX3_read 35 = .ok (.iconst 0, 1) := by decide +kernel
theorem dX3_read_36 : decode cX3_read 36 = .ok (.ireturn, 1) := by decide +kernel
theorem dX3_read_37 : decode cX3_read 37 = .ok (.aload_n 0, 1) := by decide +kernel
theorem dX3_read_38 : decode cX3_read 38 = .ok (.getfield 9, 3) := by decide +kernel
theorem dX3_read_41 : decode cX3_read 41 = .ok (.iload_n 1, 1) := by decide +kernel
theorem dX3_read_42 : decode cX3_read 42 = .ok (.iload_n 3, 1) := by decide +kernel
theorem dX3_read_43 : decode cX3_read 43 = .ok (.iastore, 1) := by decide +kernel
theorem dX3_read_44 : decode cX3_read 44 = .ok (.iinc 1 1, 3) := by decide +kernel
theorem dX3_read_47 : decode cX3_read 47 = .ok (.aload_n 0, 1) := by decide +kernel
theorem dX3_read_48 : decode cX3_read 48 = .ok (.bipush 43, 2) := by decide +kernel
theorem dX3_read_50 : decode cX3_read 50 = .ok (.invokevirtual 35, 3) := by decide +kernel
theorem dX3_read_53 : decode cX3_read 53 = .ok (.istore_n 2, 1) := by decide +kernel
theorem dX3_read_54 : decode cX3_read 54 = .ok (.goto (-37), 3) := by decide +kernel
theorem dX3_read_57 : decode cX3_read 57 = .ok (.iload_n 2, 1) := by decide +kernel
theorem dX3_read_58 : decode cX3_read 58 = .ok (.ifCond .ne 15, 3) := by decide +kernel
theorem dX3_read_61 : decode cX3_read 61 = .ok (.aload_n 0, 1) := by decide +kernel
theorem dX3_read_62 : decode cX3_read 62 = .ok (.invokevirtual 39, 3) := by decide +kernel
theorem dX3_read_65 : decode cX3_read 65 = .ok (.iconst (-1), 1) := by decide +kernel
theorem dX3_read_66 : decode cX3_read 66 = .ok (.if_icmp .ne 7, 3) := by decide +kernel
theorem dX3_read_69 : decode cX3_read 69 = .ok (.iload_n 1, 1) := by decide +kernel
theorem dX3_read_70 : decode cX3_read 70 = .ok (.goto 4, 3) := by decide +kernel
theorem dX3_read_73 : decode cX3_read 73 = .ok (.iconst 0, 1) := by decide +kernel
theorem dX3_read_74 : decode cX3_read 74 = .ok (.ireturn, 1) := by decide +kernel
theorem dX3_fault_0 : decode cX3_fault 0 = .ok (.aload_n 0, 1) := by decide +kernel
theorem dX3_fault_1 : decode cX3_fault 1 = .ok (.invokevirtual 39, 3) := by decide +kernel
theorem dX3_fault_4 : decode cX3_fault 4 = .ok (.pop, 1) := by decide +kernel
theorem dX3_fault_5 : decode cX3_fault 5 = .ok (.aload_n 0, 1) := by decide +kernel
theorem dX3_fault_6 : decode cX3_fault 6 = .ok (.getfield 27, 3) := by decide +kernel
theorem dX3_fault_9 : decode cX3_fault 9 = .ok (.ireturn, 1) := by decide +kernel
theorem dX3_readTerm_0 : decode cX3_readTerm 0 = .ok (.aload_n 0, 1) := by decide +kernel
theorem dX3_readTerm_1 : decode cX3_readTerm 1 = .ok (.invokevirtual 39, 3) := by decide +kernel
theorem dX3_readTerm_4 : decode cX3_readTerm 4 = .ok (.invokestatic 44, 3) := by decide +kernel
theorem dX3_readTerm_7 : decode cX3_readTerm 7 = .ok (.ifCond .eq 8, 3) := by decide +kernel
theorem dX3_readTerm_10 : decode cX3_readTerm 10 = .ok (.aload_n 0, 1) := by decide +kernel
theorem dX3_readTerm_11 : decode cX3_readTerm 11 = .ok (.invokevirtual 47, 3) := by decide +kernel
theorem dX3_readTerm_14 : decode cX3_readTerm 14 = .ok (.ireturn, 1) := by decide +kernel
theorem dX3_readTerm_15 : decode cX3_readTerm 15 = .ok (.aload_n 0, 1) := by decide +kernel
theorem dX3_readTerm_16 : decode cX3_readTerm 16 = .ok (.bipush 35, 2) := by decide +kernel
theorem dX3_readTerm_18 : decode cX3_readTerm 18 = .ok (.invokevirtual 35, 3) := by decide +kernel
theorem dX3_readTerm_21 : decode cX3_readTerm 21 = .ok (.ifCond .eq 5, 3) := by decide +kernel
theorem dX3_readTerm_24 : decode cX3_readTerm 24 = .ok (.iconst 4, 1) := by decide +kernel
theorem dX3_readTerm_25 : decode cX3_readTerm 25 = .ok (.ireturn, 1) := by decide +kernel
theorem dX3_readTerm_26 : decode cX3_readTerm 26 = .ok (.aload_n 0, 1) := by decide +kernel
theorem dX3_readTerm_27 : decode cX3_readTerm 27 = .ok (.invokevirtual 50, 3) := by decide +kernel
theorem dX3_readTerm_30 : decode cX3_readTerm 30 = .ok (.ireturn, 1) := by decide +kernel
theorem dX3_readNumber_0 : decode cX3_readNumber 0 = .ok (.iconst 0, 1) := by decide +kernel
theorem dX3_readNumber_1 : decode cX3_readNumber 1 = .ok (.istore_n 1, 1) := by decide +kernel
theorem dX3_readNumber_2 : decode cX3_readNumber 2 = .ok (.iconst 0, 1) := by decide +kernel
theorem dX3_readNumber_3 : decode cX3_readNumber 3 = .ok (.istore_n 2, 1) := by decide +kernel
theorem dX3_readNumber_4 : decode cX3_readNumber 4 = .ok (.iload_n 2, 1) := by decide +kernel
theorem dX3_readNumber_5 : decode cX3_readNumber 5 = .ok (.iconst 3, 1) := by decide +kernel
theorem dX3_readNumber_6 : decode cX3_readNumber 6 = .ok (.if_icmp .ge 56, 3) := by decide +kernel
theorem dX3_readNumber_9 : decode cX3_readNumber 9 = .ok (.aload_n 0, 1) := by decide +kernel
theorem dX3_readNumber_10 : decode cX3_readNumber 10 = .ok (.getfield 15, 3) := by decide +kernel
theorem dX3_readNumber_13 : decode cX3_readNumber 13 = .ok (.aload_n 0, 1) := by decide +kernel
theorem dX3_readNumber_14 : decode cX3_readNumber 14 = .ok (.getfield 27, 3) := by decide +kernel
theorem dX3_readNumber_17 : decode cX3_readNumber 17 = .ok (.invokevirtual 53, 3) := by decide +kernel
theorem dX3_readNumber_20 : decode cX3_readNumber 20 = .ok (.invokestatic 44, 3) := by decide +kernel
theorem dX3_readNumber_23 : decode cX3_readNumber 23 = .ok (.ifCond .eq 39, 3) := by decide +kernel
theorem dX3_readNumber_26 : decode cX3_readNumber 26 = .ok (.bipush 10, 2) := by decide +kernel
theorem dX3_readNumber_28 : decode cX3_readNumber 28 = .ok (.iload_n 1, 1) := by decide +kernel
theorem dX3_readNumber_29 : decode cX3_readNumber 29 = .ok (.imul, 1) := by decide +kernel
theorem dX3_readNumber_30 : decode cX3_readNumber 30 = .ok (.aload_n 0, 1) := by decide +kernel
theorem dX3_readNumber_31 : decode cX3_readNumber 31 = .ok (.getfield 15, 3) := by decide +kernel
theorem dX3_readNumber_34 : decode cX3_readNumber 34 = .ok (.aload_n 0, 1) := by decide +kernel
theorem dX3_readNumber_35 : decode cX3_readNumber 35 = .ok (.getfield 27, 3) := by decide +kernel
theorem dX3_readNumber_38 : decode cX3_readNumber 38 = .ok (.invokevirtual 53, 3) := by decide +kernel
theorem dX3_readNumber_41 : decode cX3_readNumber 41 = .ok (.iadd, 1) := by decide +kernel
theorem dX3_readNumber_42 : decode cX3_readNumber 42 = .ok (.bipush 48, 2) := by decide +kernel
theorem dX3_readNumber_44 : decode cX3_readNumber 44 = .ok (.isub, 1) := by decide +kernel
theorem dX3_readNumber_45 : decode cX3_readNumber 45 = .ok (.istore_n 1, 1) := by decide +kernel
theorem dX3_readNumber_46 : decode cX3_readNumber 46 = .ok (.aload_n 0, 1) := by decide +kernel
theorem dX3_readNumber_47 : decode cX3_readNumber 47 = .ok (.dup, 1) := by decide +kernel
theorem dX3_readNumber_48 : decode cX3_readNumber 48 = .ok (.getfield 27, 3) := by decide +kernel
theorem dX3_readNumber_51 : decode cX3_readNumber 51 = .ok (.iconst 1, 1) := by decide +kernel
theorem dX3_readNumber_52 : decode cX3_readNumber 52 = .ok (.iadd, 1) := by decide +kernel
theorem dX3_readNumber_53 : decode cX3_readNumber 53 = .ok (.putfield 27, 3) := by decide +kernel
theorem dX3_readNumber_56 : decode cX3_readNumber 56 = .ok (.iinc 2 1, 3) := by decide +kernel
theorem dX3_readNumber_59 : decode cX3_readNumber 59 = .ok (.goto (-55), 3) := by decide +kernel
theorem dX3_readNumber_62 : decode cX3_readNumber 62 = .ok (.iload_n 1, 1) := by decide +kernel
theorem dX3_readNumber_63 : decode cX3_readNumber 63 = .ok (.invokestatic 57, 3) := by decide +kernel
theorem dX3_readNumber_66 : decode cX3_readNumber 66 = .ok (.ireturn, 1) := by decide +kernel
theorem dX3_readReference_0 : decode cX3_readReference 0 = .ok (.aload_n 0, 1) := by decide +kernel
theorem dX3_readReference_1 : decode cX3_readReference 1 = .ok (.invokevirtual 60, 3) := by decide +kernel
theorem dX3_readReference_4 : decode cX3_readReference 4 = .ok (.istore_n 1, 1) := by decide +kernel
theorem dX3_readReference_5 : decode cX3_readReference 5 = .ok (.iload_n 1, 1) := by decide +kernel
theorem dX3_readReference_6 : decode cX3_readReference 6 = .ok (.ifCond .eq 12, 3) := by decide +kernel
theorem dX3_readReference_9 : decode cX3_readReference 9 = .ok (.aload_n 0, 1) := by decide +kernel
theorem dX3_readReference_10 : decode cX3_readReference 10 = .ok (.bipush 58, 2) := by decide +kernel
theorem dX3_readReference_12 : decode cX3_readReference 12 = .ok (.invokevirtual 35, 3) := by decide +kernel
theorem dX3_readReference_15 : decode cX3_readReference 15 = .ok (.ifCond .ne 5, 3) := by decide +kernel
theorem dX3_readReference_18 : decode cX3_readReference 18 = .ok (.iload_n 1, 1) := by decide +kernel
theorem dX3_readReference_19 : decode cX3_readReference 19 = .ok (.ireturn, 1) := by decide +kernel
theorem dX3_readReference_20 : decode cX3_readReference 20 = .ok (.aload_n 0, 1) := by decide +kernel
theorem dX3_readReference_21 : decode cX3_readReference 21 = .ok (.invokevirtual 60, 3) := by decide +kernel
theorem dX3_readReference_24 : decode cX3_readReference 24 = .ok (.istore_n 2, 1) := by decide +kernel
theorem dX3_readReference_25 : decode cX3_readReference 25 = .ok (.iload_n 2, 1) := by decide +kernel
theorem dX3_readReference_26 : decode cX3_readReference 26 = .ok (.ifCond .ne 7, 3) := by decide +kernel
theorem dX3_readReference_29 : decode cX3_readReference 29 = .ok (.iconst 0, 1) := by decide +kernel
theorem dX3_readReference_30 : decode cX3_readReference 30 = .ok (.goto 8, 3) := by decide +kernel
theorem dX3_readReference_33 : decode cX3_readReference 33 = .ok (.iload_n 1, 1) := by decide +kernel
theorem dX3_readReference_34 : decode cX3_readReference 34 = .ok (.iload_n 2, 1) := by decide +kernel
theorem dX3_readReference_35 : decode cX3_readReference 35 = .ok (.invokestatic 63, 3) := by decide +kernel
theorem dX3_readReference_38 : decode cX3_readReference 38 = .ok (.ireturn, 1) := by decide +kernel
theorem dX3_readPlace_0 : decode cX3_readPlace 0 = .ok (.aload_n 0, 1) := by decide +kernel
theorem dX3_readPlace_1 : decode cX3_readPlace 1 = .ok (.bipush 36, 2) := by decide +kernel
theorem dX3_readPlace_3 : decode cX3_readPlace 3 = .ok (.invokevirtual 35, 3) := by decide +kernel
theorem dX3_readPlace_6 : decode cX3_readPlace 6 = .ok (.ifCond .eq 7, 3) := by decide +kernel
theorem dX3_readPlace_9 : decode cX3_readPlace 9 = .ok (.iconst 1, 1) := by decide +kernel
theorem dX3_readPlace_10 : decode cX3_readPlace 10 = .ok (.goto 4, 3) := by decide +kernel
theorem dX3_readPlace_13 : decode cX3_readPlace 13 = .ok (.iconst 0, 1) := by decide +kernel
theorem dX3_readPlace_14 : decode cX3_readPlace 14 = .ok (.istore_n 1, 1) := by decide +kernel
theorem dX3_readPlace_15 : decode cX3_readPlace 15 = .ok (.aload_n 0, 1) := by decide +kernel
theorem dX3_readPlace_16 : decode cX3_readPlace 16 = .ok (.invokevirtual 39, 3) := by decide +kernel
theorem dX3_readPlace_19 : decode cX3_readPlace 19 = .ok (.invokestatic 67, 3) := by decide +kernel
theorem dX3_readPlace_22 : decode cX3_readPlace 22 = .ok (.istore_n 2, 1) := by decide +kernel
theorem dX3_readPlace_23 : decode cX3_readPlace 23 = .ok (.iload_n 2, 1) := by decide +kernel
theorem dX3_readPlace_24 : decode cX3_readPlace 24 = .ok (.iconst (-1), 1) := by decide +kernel
theorem dX3_readPlace_25 : decode cX3_readPlace 25 = .ok (.if_icmp .ne 5, 3) := by decide +kernel
theorem dX3_readPlace_28 : decode cX3_readPlace 28 = .ok (.iconst 0, 1) := by decide +kernel
theorem dX3_readPlace_29 : decode cX3_readPlace 29 = .ok (.ireturn, 1) := by decide +kernel
theorem dX3_readPlace_30 : decode cX3_readPlace 30 = .ok (.aload_n 0, 1) := by decide +kernel
theorem dX3_readPlace_31 : decode cX3_readPlace 31 = .ok (.dup, 1) := by decide +kernel
theorem dX3_readPlace_32 : decode cX3_readPlace 32 = .ok (.getfield 27, 3) := by decide +kernel
theorem dX3_readPlace_35 : decode cX3_readPlace 35 = .ok (.iconst 1, 1) := by decide +kernel
theorem dX3_readPlace_36 : decode cX3_readPlace 36 = .ok (.iadd, 1) := by decide +kernel
theorem dX3_readPlace_37 : decode cX3_readPlace 37 = .ok (.putfield 27, 3) := by decide +kernel
theorem dX3_readPlace_40 : decode cX3_readPlace 40 = .ok (.iload_n 1, 1) := by decide +kernel
theorem dX3_readPlace_41 : decode cX3_readPlace 41 = .ok (.aload_n 0, 1) := by decide +kernel
theorem dX3_readPlace_42 : decode cX3_readPlace 42 = .ok (.bipush 36, 2) := by decide +kernel
theorem dX3_readPlace_44 : decode cX3_readPlace 44 = .ok (.invokevirtual 35, 3) := by decide +kernel
theorem dX3_readPlace_47 : decode cX3_readPlace 47 = .ok (.ifCond .eq 7, 3) := by decide +kernel
theorem dX3_readPlace_50 : decode cX3_readPlace 50 = .ok (.iconst 2, 1) := by decide +kernel
theorem dX3_readPlace_51 : decode cX3_readPlace 51 = .ok (.goto 4, 3) := by decide +kernel
theorem dX3_readPlace_54 : decode cX3_readPlace 54 = .ok (.iconst 0, 1) := by decide +kernel
theorem dX3_readPlace_55 : decode cX3_readPlace 55 = .ok (.iadd, 1) := by decide +kernel
theorem dX3_readPlace_56 : decode cX3_readPlace 56 = .ok (.istore_n 1, 1) := by decide +kernel
theorem dX3_readPlace_57 : decode cX3_readPlace 57 = .ok (.aload_n 0, 1) := by decide +kernel
theorem dX3_readPlace_58 : decode cX3_readPlace 58 = .ok (.invokevirtual 39, 3) := by decide +kernel
theorem dX3_readPlace_61 : decode cX3_readPlace 61 = .ok (.bipush 49, 2) := by decide +kernel
theorem dX3_readPlace_63 : decode cX3_readPlace 63 = .ok (.isub, 1) := by decide +kernel
theorem dX3_readPlace_64 : decode cX3_readPlace 64 = .ok (.istore_n 3, 1) := by decide +kernel
theorem dX3_readPlace_65 : decode cX3_readPlace 65 = .ok (.iload_n 3, 1) := by decide +kernel
theorem dX3_readPlace_66 : decode cX3_readPlace 66 = .ok (.iconst 0, 1) := by decide +kernel
theorem dX3_readPlace_67 : decode cX3_readPlace 67 = .ok (.iconst 5, 1) := by decide +kernel
theorem dX3_readPlace_68 : decode cX3_readPlace 68 = .ok (.invokestatic 70, 3) := by decide +kernel
theorem dX3_readPlace_71 : decode cX3_readPlace 71 = .ok (.ifCond .ne 5, 3) := by decide +kernel
theorem dX3_readPlace_74 : decode cX3_readPlace 74 = .ok (.iconst 0, 1) := by decide +kernel
theorem dX3_readPlace_75 : decode cX3_readPlace 75 = .ok (.ireturn, 1) := by decide +kernel
theorem dX3_readPlace_76 : decode cX3_readPlace 76 = .ok (.aload_n 0, 1) := by decide +kernel
theorem dX3_readPlace_77 : decode cX3_readPlace 77 = .ok (.dup, 1) := by decide +kernel
theorem dX3_readPlace_78 : decode cX3_readPlace 78 = .ok (.getfield 27, 3) := by decide +kernel
theorem dX3_readPlace_81 : decode cX3_readPlace 81 = .ok (.iconst 1, 1) := by decide +kernel
theorem dX3_readPlace_82 : decode cX3_readPlace 82 = .ok (.iadd, 1) := by decide +kernel
theorem dX3_readPlace_83 : decode cX3_readPlace 83 = .ok (.putfield 27, 3) := by decide +kernel
theorem dX3_readPlace_86 : decode cX3_readPlace 86 = .ok (.iload_n 2, 1) := by decide +kernel
theorem dX3_readPlace_87 : decode cX3_readPlace 87 = .ok (.iload_n 3, 1) := by decide +kernel
theorem dX3_readPlace_88 : decode cX3_readPlace 88 = .ok (.iload_n 1, 1) := by decide +kernel
theorem dX3_readPlace_89 : decode cX3_readPlace 89 = .ok (.invokestatic 74, 3) := by decide +kernel
theorem dX3_readPlace_92 : decode cX3_readPlace 92 = .ok (.ireturn, 1) := by decide +kernel
theorem dX3_takes_0 : decode cX3_takes 0 = .ok (.aload_n 0, 1) := by decide +kernel
theorem dX3_takes_1 : decode cX3_takes 1 = .ok (.invokevirtual 39, 3) := by decide +kernel
theorem dX3_takes_4 : decode cX3_takes 4 = .ok (.iload_n 1, 1) := by decide +kernel
theorem dX3_takes_5 : decode cX3_takes 5 = .ok (.if_icmp .eq 5, 3) := by decide +kernel
theorem dX3_takes_8 : decode cX3_takes 8 = .ok (.iconst 0, 1) := by decide +kernel
theorem dX3_takes_9 : decode cX3_takes 9 = .ok (.ireturn, 1) := by decide +kernel
theorem dX3_takes_10 : decode cX3_takes 10 = .ok (.aload_n 0, 1) := by decide +kernel
theorem dX3_takes_11 : decode cX3_takes 11 = .ok (.dup, 1) := by decide +kernel
theorem dX3_takes_12 : decode cX3_takes 12 = .ok (.getfield 27, 3) := by decide +kernel
theorem dX3_takes_15 : decode cX3_takes 15 = .ok (.iconst 1, 1) := by decide +kernel
theorem dX3_takes_16 : decode cX3_takes 16 = .ok (.iadd, 1) := by decide +kernel
theorem dX3_takes_17 : decode cX3_takes 17 = .ok (.putfield 27, 3) := by decide +kernel
theorem dX3_takes_20 : decode cX3_takes 20 = .ok (.iconst 1, 1) := by decide +kernel
theorem dX3_takes_21 : decode cX3_takes 21 = .ok (.ireturn, 1) := by decide +kernel
theorem dX3_next_0 : decode cX3_next 0 = .ok (.aload_n 0, 1) := by decide +kernel
theorem dX3_next_1 : decode cX3_next 1 = .ok (.getfield 27, 3) := by decide +kernel
theorem dX3_next_4 : decode cX3_next 4 = .ok (.aload_n 0, 1) := by decide +kernel
theorem dX3_next_5 : decode cX3_next 5 = .ok (.getfield 15, 3) := by decide +kernel
theorem dX3_next_8 : decode cX3_next 8 = .ok (.getfield 78, 3) := by decide +kernel
theorem dX3_next_11 : decode cX3_next 11 = .ok (.if_icmp .ge 32, 3) := by decide +kernel
theorem dX3_next_14 : decode cX3_next 14 = .ok (.aload_n 0, 1) := by decide +kernel
theorem dX3_next_15 : decode cX3_next 15 = .ok (.getfield 15, 3) := by decide +kernel
theorem dX3_next_18 : decode cX3_next 18 = .ok (.aload_n 0, 1) := by decide +kernel
theorem dX3_next_19 : decode cX3_next 19 = .ok (.getfield 27, 3) := by decide +kernel
theorem dX3_next_22 : decode cX3_next 22 = .ok (.invokevirtual 53, 3) := by decide +kernel
theorem dX3_next_25 : decode cX3_next 25 = .ok (.bipush 32, 2) := by decide +kernel
theorem dX3_next_27 : decode cX3_next 27 = .ok (.if_icmp .ne 16, 3) := by decide +kernel
theorem dX3_next_30 : decode cX3_next 30 = .ok (.aload_n 0, 1) := by decide +kernel
theorem dX3_next_31 : decode cX3_next 31 = .ok (.dup, 1) := by decide +kernel
theorem dX3_next_32 : decode cX3_next 32 = .ok (.getfield 27, 3) := by decide +kernel
theorem dX3_next_35 : decode cX3_next 35 = .ok (.iconst 1, 1) := by decide +kernel
theorem dX3_next_36 : decode cX3_next 36 = .ok (.iadd, 1) := by decide +kernel
theorem dX3_next_37 : decode cX3_next 37 = .ok (.putfield 27, 3) := by decide +kernel
theorem dX3_next_40 : decode cX3_next 40 = .ok (.goto (-40), 3) := by decide +kernel
theorem dX3_next_43 : decode cX3_next 43 = .ok (.aload_n 0, 1) := by decide +kernel
theorem dX3_next_44 : decode cX3_next 44 = .ok (.getfield 15, 3) := by decide +kernel
theorem dX3_next_47 : decode cX3_next 47 = .ok (.aload_n 0, 1) := by decide +kernel
theorem dX3_next_48 : decode cX3_next 48 = .ok (.getfield 27, 3) := by decide +kernel
theorem dX3_next_51 : decode cX3_next 51 = .ok (.invokevirtual 53, 3) := by decide +kernel
theorem dX3_next_54 : decode cX3_next 54 = .ok (.ireturn, 1) := by decide +kernel
theorem dX3_isFigure_0 : decode cX3_isFigure 0 = .ok (.iload_n 0, 1) := by decide +kernel
theorem dX3_isFigure_1 : decode cX3_isFigure 1 = .ok (.bipush 48, 2) := by decide +kernel
theorem dX3_isFigure_3 : decode cX3_isFigure 3 = .ok (.if_icmp .lt 13, 3) := by decide +kernel
theorem dX3_isFigure_6 : decode cX3_isFigure 6 = .ok (.iload_n 0, 1) := by decide +kernel
theorem dX3_isFigure_7 : decode cX3_isFigure 7 = .ok (.bipush 57, 2) := by decide +kernel
theorem dX3_isFigure_9 : decode cX3_isFigure 9 = .ok (.if_icmp .gt 7, 3) := by decide +kernel
theorem dX3_isFigure_12 : decode cX3_isFigure 12 = .ok (.iconst 1, 1) := by decide +kernel
theorem dX3_isFigure_13 : decode cX3_isFigure 13 = .ok (.goto 4, 3) := by decide +kernel
theorem dX3_isFigure_16 : decode cX3_isFigure 16 = .ok (.iconst 0, 1) := by decide +kernel
theorem dX3_isFigure_17 : decode cX3_isFigure 17 = .ok (.ireturn, 1) := by decide +kernel
theorem dX3_columnNamed_0 : decode cX3_columnNamed 0 = .ok (.iload_n 0, 1) := by decide +kernel
theorem dX3_columnNamed_1 : decode cX3_columnNamed 1 = .ok (.bipush 97, 2) := by decide +kernel
theorem dX3_columnNamed_3 : decode cX3_columnNamed 3 = .ok (.if_icmp .lt 10, 3) := by decide +kernel
theorem dX3_columnNamed_6 : decode cX3_columnNamed 6 = .ok (.iload_n 0, 1) := by decide +kernel
theorem dX3_columnNamed_7 : decode cX3_columnNamed 7 = .ok (.bipush 97, 2) := by decide +kernel
theorem dX3_columnNamed_9 : decode cX3_columnNamed 9 = .ok (.isub, 1) := by decide +kernel
theorem dX3_columnNamed_10 : decode cX3_columnNamed 10 = .ok (.goto 7, 3) := by decide +kernel
theorem dX3_columnNamed_13 : decode cX3_columnNamed 13 = .ok (.iload_n 0, 1) := by decide +kernel
theorem dX3_columnNamed_14 : decode cX3_columnNamed 14 = .ok (.bipush 65, 2) := by decide +kernel
theorem dX3_columnNamed_16 : decode cX3_columnNamed 16 = .ok (.isub, 1) := by decide +kernel
theorem dX3_columnNamed_17 : decode cX3_columnNamed 17 = .ok (.istore_n 1, 1) := by decide +kernel
theorem dX3_columnNamed_18 : decode cX3_columnNamed 18 = .ok (.iload_n 1, 1) := by decide +kernel
theorem dX3_columnNamed_19 : decode cX3_columnNamed 19 = .ok (.iconst 0, 1) := by decide +kernel
theorem dX3_columnNamed_20 : decode cX3_columnNamed 20 = .ok (.iconst 5, 1) := by decide +kernel
theorem dX3_columnNamed_21 : decode cX3_columnNamed 21 = .ok (.invokestatic 70, 3) := by decide +kernel
theorem dX3_columnNamed_24 : decode cX3_columnNamed 24 = .ok (.ifCond .eq 7, 3) := by decide +kernel
theorem dX3_columnNamed_27 : decode cX3_columnNamed 27 = .ok (.iload_n 1, 1) := by decide +kernel
theorem dX3_columnNamed_28 : decode cX3_columnNamed 28 = .ok (.goto 4, 3) := by decide +kernel
theorem dX3_columnNamed_31 : decode cX3_columnNamed 31 = .ok (.iconst (-1), 1) := by decide +kernel
theorem dX3_columnNamed_32 : decode cX3_columnNamed 32 = .ok (.ireturn, 1) := by decide +kernel
theorem dX4_init_0 : decode cX4_init 0 = .ok (.aload_n 0, 1) := by decide +kernel
theorem dX4_init_1 : decode cX4_init 1 = .ok (.invokespecial 3, 3) := by decide +kernel
theorem dX4_init_4 : decode cX4_init 4 = .ok (.aload_n 0, 1) := by decide +kernel
theorem dX4_init_5 : decode cX4_init 5 = .ok (.sipush 144, 3) := by decide +kernel
theorem dX4_init_8 : decode cX4_init 8 = .ok (.newarray .int, 2) := by decide +kernel
theorem dX4_init_10 : decode cX4_init 10 = .ok (.putfield 9, 3) := by decide +kernel
theorem dX4_init_13 : decode cX4_init 13 = .ok (.aload_n 0, 1) := by decide +kernel
theorem dX4_init_14 : decode cX4_init 14 = .ok (.sipush 144, 3) := by decide +kernel
theorem dX4_init_17 : decode cX4_init 17 = .ok (.newarray .int, 2) := by decide +kernel
theorem dX4_init_19 : decode cX4_init 19 = .ok (.putfield 15, 3) := by decide +kernel
theorem dX4_init_22 : decode cX4_init 22 = .ok (.return_, 1) := by decide +kernel
theorem dX4_termOf_0 : decode cX4_termOf 0 = .ok (.iload_n 1, 1) := by decide +kernel
theorem dX4_termOf_1 : decode cX4_termOf 1 = .ok (.invokestatic 18, 3) := by decide +kernel
theorem dX4_termOf_4 : decode cX4_termOf 4 = .ok (.ifCond .eq 12, 3) := by decide +kernel
theorem dX4_termOf_7 : decode cX4_termOf 7 = .ok (.iload_n 2, 1) := by decide +kernel
theorem dX4_termOf_8 : decode cX4_termOf 8 = .ok (.iconst 0, 1) := by decide +kernel
theorem dX4_termOf_9 : decode cX4_termOf 9 = .ok (.iconst 3, 1) := by decide +kernel
theorem dX4_termOf_10 : decode cX4_termOf 10 = .ok (.invokestatic 22, 3) := by decide +kernel
theorem dX4_termOf_13 : decode cX4_termOf 13 = .ok (.ifCond .ne 5, 3) := by decide +kernel
theorem dX4_termOf_16 : decode cX4_termOf 16 = .ok (.iconst 0, 1) := by decide +kernel
theorem dX4_termOf_17 : decode cX4_termOf 17 = .ok (.ireturn, 1) := by decide +kernel
theorem dX4_termOf_18 : decode cX4_termOf 18 = .ok (.aload_n 0, 1) := by decide +kernel
theorem dX4_termOf_19 : decode cX4_termOf 19 = .ok (.getfield 9, 3) := by decide +kernel
theorem dX4_termOf_22 : decode cX4_termOf 22 = .ok (.iload_n 1, 1) := by decide +kernel
theorem dX4_termOf_23 : decode cX4_termOf 23 = .ok (.iconst 4, 1) := by decide +kernel
theorem dX4_termOf_24 : decode cX4_termOf 24 = .ok (.imul, 1) := by decide +kernel
theorem dX4_termOf_25 : decode cX4_termOf 25 = .ok (.iload_n 2, 1) := by decide +kernel
theorem dX4_termOf_26 : decode cX4_termOf 26 = .ok (.iadd, 1) := by decide +kernel
theorem dX4_termOf_27 : decode cX4_termOf 27 = .ok (.iaload, 1) := by decide +kernel
theorem dX4_termOf_28 : decode cX4_termOf 28 = .ok (.ireturn, 1) := by decide +kernel
theorem dX4_sizeOf_0 : decode cX4_sizeOf 0 = .ok (.iconst 0, 1) := by decide +kernel
theorem dX4_sizeOf_1 : decode cX4_sizeOf 1 = .ok (.istore_n 2, 1) := by decide +kernel
theorem dX4_sizeOf_2 : decode cX4_sizeOf 2 = .ok (.iload_n 2, 1) := by decide +kernel
theorem dX4_sizeOf_3 : decode cX4_sizeOf 3 = .ok (.iconst 4, 1) := by decide +kernel
theorem dX4_sizeOf_4 : decode cX4_sizeOf 4 = .ok (.if_icmp .ge 18, 3) := by decide +kernel
theorem dX4_sizeOf_7 : decode cX4_sizeOf 7 = .ok (.aload_n 0, 1) := by decide +kernel
theorem dX4_sizeOf_8 : decode cX4_sizeOf 8 = .ok (.iload_n 1, 1) := by decide +kernel
theorem dX4_sizeOf_9 : decode cX4_sizeOf 9 = .ok (.iload_n 2, 1) := by decide +kernel
theorem dX4_sizeOf_10 : decode cX4_sizeOf 10 = .ok (.invokevirtual 28, 3) := by decide +kernel
theorem dX4_sizeOf_13 : decode cX4_sizeOf 13 = .ok (.ifCond .eq 9, 3) := by decide +kernel
theorem dX4_sizeOf_16 : decode cX4_sizeOf 16 = .ok (.iinc 2 1, 3) := by decide +kernel
theorem dX4_sizeOf_19 : decode cX4_sizeOf 19 = .ok (.goto (-17), 3) := by decide +kernel
theorem dX4_sizeOf_22 : decode cX4_sizeOf 22 = .ok (.iload_n 2, 1) := by decide +kernel
theorem dX4_sizeOf_23 : decode cX4_sizeOf 23 = .ok (.ireturn, 1) := by decide +kernel
theorem dX4_isEmpty_0 : decode cX4_isEmpty 0 = .ok (.aload_n 0, 1) := by decide +kernel
theorem dX4_isEmpty_1 : decode cX4_isEmpty 1 = .ok (.iload_n 1, 1) := by decide +kernel
theorem dX4_isEmpty_2 : decode cX4_isEmpty 2 = .ok (.iconst 0, 1) := by decide +kernel
theorem dX4_isEmpty_3 : decode cX4_isEmpty 3 = .ok (.invokevirtual 28, 3) := by decide +kernel
theorem dX4_isEmpty_6 : decode cX4_isEmpty 6 = .ok (.ifCond .ne 7, 3) := by decide +kernel
theorem dX4_isEmpty_9 : decode cX4_isEmpty 9 = .ok (.iconst 1, 1) := by decide +kernel
theorem dX4_isEmpty_10 : decode cX4_isEmpty 10 = .ok (.goto 4, 3) := by decide +kernel
theorem dX4_isEmpty_13 : decode cX4_isEmpty 13 = .ok (.iconst 0, 1) := by decide +kernel
theorem dX4_isEmpty_14 : decode cX4_isEmpty 14 = .ok (.ireturn, 1) := by decide +kernel
theorem dX4_fill_0 : decode cX4_fill 0 = .ok (.iload_n 1, 1) := by decide +kernel
theorem dX4_fill_1 : decode cX4_fill 1 = .ok (.invokestatic 18, 3) := by decide +kernel
theorem dX4_fill_4 : decode cX4_fill 4 = .ok (.ifCond .eq 22, 3) := by decide +kernel
theorem dX4_fill_7 : decode cX4_fill 7 = .ok (.aload_n 2, 1) := by decide +kernel
theorem dX4_fill_8 : decode cX4_fill 8 = .ok (.arraylength, 1) := by decide +kernel
theorem dX4_fill_9 : decode cX4_fill 9 = .ok (.iconst 4, 1) := by decide +kernel
theorem dX4_fill_10 : decode cX4_fill 10 = .ok (.if_icmp .lt 16, 3) := by decide +kernel
theorem dX4_fill_13 : decode cX4_fill 13 = .ok (.aload_n 2, 1) := by decide +kernel
theorem dX4_fill_14 : decode cX4_fill 14 = .ok (.iconst 0, 1) := by decide +kernel
theorem dX4_fill_15 : decode cX4_fill 15 = .ok (.aload_n 0, 1) := by decide +kernel
theorem dX4_fill_16 : decode cX4_fill 16 = .ok (.getfield 9, 3) := by decide +kernel
theorem dX4_fill_19 : decode cX4_fill 19 = .ok (.iload_n 1, 1) := by decide +kernel
theorem dX4_fill_20 : decode cX4_fill 20 = .ok (.iconst 4, 1) := by decide +kernel
theorem dX4_fill_21 : decode cX4_fill 21 = .ok (.imul, 1) := by decide +kernel
theorem dX4_fill_22 : decode cX4_fill 22 = .ok (.iconst 4, 1) := by decide +kernel
theorem dX4_fill_23 : decode cX4_fill 23 = .ok (.invokestatic 32, 3) := by decide +kernel
theorem dX4_fill_26 : decode cX4_fill 26 = .ok (.return_, 1) := by decide +kernel
theorem dX4_drop_0 : decode cX4_drop 0 = .ok (.iconst 0, 1) := by decide +kernel
theorem dX4_drop_1 : decode cX4_drop 1 = .ok (.istore_n 2, 1) := by decide +kernel
theorem dX4_drop_2 : decode cX4_drop 2 = .ok (.iload_n 2, 1) := by decide +kernel
theorem dX4_drop_3 : decode cX4_drop 3 = .ok (.iconst 4, 1) := by decide +kernel
theorem dX4_drop_4 : decode cX4_drop 4 = .ok (.if_icmp .ge 27, 3) := by decide +kernel
theorem dX4_drop_7 : decode cX4_drop 7 = .ok (.iload_n 1, 1) := by decide +kernel
theorem dX4_drop_8 : decode cX4_drop 8 = .ok (.invokestatic 18, 3) := by decide +kernel
theorem dX4_drop_11 : decode cX4_drop 11 = .ok (.ifCond .eq 20, 3) := by decide +kernel
theorem dX4_drop_14 : decode cX4_drop 14 = .ok (.aload_n 0, 1) := by decide +kernel
theorem dX4_drop_15 : decode cX4_drop 15 = .ok (.getfield 9, 3) := by decide +kernel
theorem dX4_drop_18 : decode cX4_drop 18 = .ok (.iload_n 1, 1) := by decide +kernel
theorem dX4_drop_19 : decode cX4_drop 19 = .ok (.iconst 4, 1) := by decide +kernel
theorem dX4_drop_20 : decode cX4_drop 20 = .ok (.imul, 1) := by decide +kernel
theorem dX4_drop_21 : decode cX4_drop 21 = .ok (.iload_n 2, 1) := by decide +kernel
theorem dX4_drop_22 : decode cX4_drop 22 = .ok (.iadd, 1) := by decide +kernel
theorem dX4_drop_23 : decode cX4_drop 23 = .ok (.iconst 0, 1) := by decide +kernel
theorem dX4_drop_24 : decode cX4_drop 24 = .ok (.iastore, 1) := by decide +kernel
theorem dX4_drop_25 : decode cX4_drop 25 = .ok (.iinc 2 1, 3) := by decide +kernel
theorem dX4_drop_28 : decode cX4_drop 28 = .ok (.goto (-26), 3) := by decide +kernel
theorem dX4_drop_31 : decode cX4_drop 31 = .ok (.return_, 1) := by decide +kernel
theorem dX4_wouldLose_0 : decode cX4_wouldLose 0 = .ok (.iconst 0, 1) := by decide +kernel
theorem dX4_wouldLose_1 : decode cX4_wouldLose 1 = .ok (.istore 4, 2) := by decide +kernel
theorem dX4_wouldLose_3 : decode cX4_wouldLose 3 = .ok (.iload 4, 2) := by decide +kernel
theorem dX4_wouldLose_5 : decode cX4_wouldLose 5 = .ok (.bipush 36, 2) := by decide +kernel
theorem dX4_wouldLose_7 : decode cX4_wouldLose 7 = .ok (.if_icmp .ge 35, 3) := by decide +kernel
theorem dX4_wouldLose_10 : decode cX4_wouldLose 10 = .ok (.aload_n 0, 1) := by decide +kernel
theorem dX4_wouldLose_11 : decode cX4_wouldLose 11 = .ok (.iload 4, 2) := by decide +kernel
theorem dX4_wouldLose_13 : decode cX4_wouldLose 13 = .ok (.invokevirtual 38, 3) := by decide +kernel
theorem dX4_wouldLose_16 : decode cX4_wouldLose 16 = .ok (.ifCond .ne 20, 3) := by decide +kernel
theorem dX4_wouldLose_19 : decode cX4_wouldLose 19 = .ok (.iload 4, 2) := by decide +kernel
theorem dX4_wouldLose_21 : decode cX4_wouldLose 21 = .ok (.iload_n 1, 1) := by decide +kernel
theorem dX4_wouldLose_22 : decode cX4_wouldLose 22 = .ok (.invokestatic 41, 3) := by decide +kernel
theorem dX4_wouldLose_25 : decode cX4_wouldLose 25 = .ok (.iload_n 2, 1) := by decide +kernel
theorem dX4_wouldLose_26 : decode cX4_wouldLose 26 = .ok (.iload_n 3, 1) := by decide +kernel
theorem dX4_wouldLose_27 : decode cX4_wouldLose 27 = .ok (.invokestatic 44, 3) := by decide +kernel
theorem dX4_wouldLose_30 : decode cX4_wouldLose 30 = .ok (.iconst (-1), 1) := by decide +kernel
theorem dX4_wouldLose_31 : decode cX4_wouldLose 31 = .ok (.if_icmp .ne 5, 3) := by decide +kernel
theorem dX4_wouldLose_34 : decode cX4_wouldLose 34 = .ok (.iconst 1, 1) := by decide +kernel
theorem dX4_wouldLose_35 : decode cX4_wouldLose 35 = .ok (.ireturn, 1) := by decide +kernel
theorem dX4_wouldLose_36 : decode cX4_wouldLose 36 = .ok (.iinc 4 1, 3) := by decide +kernel
theorem dX4_wouldLose_39 : decode cX4_wouldLose 39 = .ok (.goto (-36), 3) := by decide +kernel
theorem dX4_wouldLose_42 : decode cX4_wouldLose 42 = .ok (.iconst 0, 1) := by decide +kernel
theorem dX4_wouldLose_43 : decode cX4_wouldLose 43 = .ok (.ireturn, 1) := by decide +kernel
theorem dX4_openLines_0 : decode cX4_openLines 0 = .ok (.aload_n 0, 1) := by decide +kernel
theorem dX4_openLines_1 : decode cX4_openLines 1 = .ok (.invokevirtual 48, 3) := by decide +kernel
theorem dX4_openLines_4 : decode cX4_openLines 4 = .ok (.aload_n 0, 1) := by decide +kernel
theorem dX4_openLines_5 : decode cX4_openLines 5 = .ok (.getfield 9, 3) := by decide +kernel
theorem dX4_openLines_8 : decode cX4_openLines 8 = .ok (.iconst 0, 1) := by decide +kernel
theorem dX4_openLines_9 : decode cX4_openLines 9 = .ok (.invokestatic 51, 3) := by decide +kernel
theorem dX4_openLines_12 : decode cX4_openLines 12 = .ok (.iconst 0, 1) := by decide +kernel
theorem dX4_openLines_13 : decode cX4_openLines 13 = .ok (.istore 4, 2) := by decide +kernel
theorem dX4_openLines_15 : decode cX4_openLines 15 = .ok (.iload 4, 2) := by decide +kernel
theorem dX4_openLines_17 : decode cX4_openLines 17 = .ok (.bipush 36, 2) := by decide +kernel
theorem dX4_openLines_19 : decode cX4_openLines 19 = .ok (.if_icmp .ge 27, 3) := by decide +kernel
theorem dX4_openLines_22 : decode cX4_openLines 22 = .ok (.aload_n 0, 1) := by decide +kernel
theorem dX4_openLines_23 : decode cX4_openLines 23 = .ok (.iload 4, 2) := by decide +kernel
theorem dX4_openLines_25 : decode cX4_openLines 25 = .ok (.iload_n 1, 1) := by decide +kernel
theorem dX4_openLines_26 : decode cX4_openLines 26 = .ok (.iload 4, 2) := by decide +kernel
theorem dX4_openLines_28 : decode cX4_openLines 28 = .ok (.iload_n 1, 1) := by decide +kernel
theorem dX4_openLines_29 : decode cX4_openLines 29 = .ok (.invokestatic 41, 3) := by decide +kernel
theorem dX4_openLines_32 : decode cX4_openLines 32 = .ok (.iload_n 2, 1) := by decide +kernel
theorem dX4_openLines_33 : decode cX4_openLines 33 = .ok (.iload_n 3, 1) := by decide +kernel
theorem dX4_openLines_34 : decode cX4_openLines 34 = .ok (.invokestatic 44, 3) := by decide +kernel
theorem dX4_openLines_37 : decode cX4_openLines 37 = .ok (.invokevirtual 57, 3) := by decide +kernel
theorem dX4_openLines_40 : decode cX4_openLines 40 = .ok (.iinc 4 1, 3) := by decide +kernel
theorem dX4_openLines_43 : decode cX4_openLines 43 = .ok (.goto (-28), 3) := by decide +kernel
theorem dX4_openLines_46 : decode cX4_openLines 46 = .ok (.iconst 0, 1) := by decide +kernel
theorem dX4_openLines_47 : decode cX4_openLines 47 = .ok (.istore 4, 2) := by decide +kernel
theorem dX4_openLines_49 : decode cX4_openLines 49 = .ok (.iload 4, 2) := by decide +kernel
theorem dX4_openLines_51 : decode cX4_openLines 51 = .ok (.sipush 144, 3) := by decide +kernel
theorem dX4_openLines_54 : decode cX4_openLines 54 = .ok (.if_icmp .ge 29, 3) := by decide +kernel
theorem dX4_openLines_57 : decode cX4_openLines 57 = .ok (.aload_n 0, 1) := by decide +kernel
theorem dX4_openLines_58 : decode cX4_openLines 58 = .ok (.getfield 9, 3) := by decide +kernel
theorem dX4_openLines_61 : decode cX4_openLines 61 = .ok (.iload 4, 2) := by decide +kernel
theorem dX4_openLines_63 : decode cX4_openLines 63 = .ok (.aload_n 0, 1) := by decide +kernel
theorem dX4_openLines_64 : decode cX4_openLines 64 = .ok (.getfield 9, 3) := by decide +kernel
theorem dX4_openLines_67 : decode cX4_openLines 67 = .ok (.iload 4, 2) := by decide +kernel
theorem dX4_openLines_69 : decode cX4_openLines 69 = .ok (.iaload, 1) := by decide +kernel
theorem dX4_openLines_70 : decode cX4_openLines 70 = .ok (.iload_n 1, 1) := by decide +kernel
theorem dX4_openLines_71 : decode cX4_openLines 71 = .ok (.iload_n 2, 1) := by decide +kernel
theorem dX4_openLines_72 : decode cX4_openLines 72 = .ok (.iload_n 3, 1) := by decide +kernel
theorem dX4_openLines_73 : decode cX4_openLines 73 = .ok (.invokestatic 61, 3) := by decide +kernel
theorem dX4_openLines_76 : decode cX4_openLines 76 = .ok (.iastore, 1) := by decide +kernel
theorem dX4_openLines_77 : decode cX4_openLines 77 = .ok (.iinc 4 1, 3) := by decide +kernel
theorem dX4_openLines_80 : decode cX4_openLines 80 = .ok (.goto (-31), 3) := by decide +kernel
theorem dX4_openLines_83 : decode cX4_openLines 83 = .ok (.return_, 1) := by decide +kernel
theorem dX4_closeLines_0 : decode cX4_closeLines 0 = .ok (.aload_n 0, 1) := by decide +kernel
theorem dX4_closeLines_1 : decode cX4_closeLines 1 = .ok (.invokevirtual 48, 3) := by decide +kernel
theorem dX4_closeLines_4 : decode cX4_closeLines 4 = .ok (.aload_n 0, 1) := by decide +kernel
theorem dX4_closeLines_5 : decode cX4_closeLines 5 = .ok (.getfield 9, 3) := by decide +kernel
theorem dX4_closeLines_8 : decode cX4_closeLines 8 = .ok (.iconst 0, 1) := by decide +kernel
theorem dX4_closeLines_9 : decode cX4_closeLines 9 = .ok (.invokestatic 51, 3) := by decide +kernel
theorem dX4_closeLines_12 : decode cX4_closeLines 12 = .ok (.iconst 0, 1) := by decide +kernel
theorem dX4_closeLines_13 : decode cX4_closeLines 13 = .ok (.istore 4, 2) := by decide +kernel
theorem dX4_closeLines_15 : decode cX4_closeLines 15 = .ok (.iload 4, 2) := by decide +kernel
theorem dX4_closeLines_17 : decode cX4_closeLines 17 = .ok (.bipush 36, 2) := by decide +kernel
theorem dX4_closeLines_19 : decode cX4_closeLines 19 = .ok (.if_icmp .ge 27, 3) := by decide +kernel
theorem dX4_closeLines_22 : decode cX4_closeLines 22 = .ok (.aload_n 0, 1) := by decide +kernel
theorem dX4_closeLines_23 : decode cX4_closeLines 23 = .ok (.iload 4, 2) := by decide +kernel
theorem dX4_closeLines_25 : decode cX4_closeLines 25 = .ok (.iload_n 1, 1) := by decide +kernel
theorem dX4_closeLines_26 : decode cX4_closeLines 26 = .ok (.iload 4, 2) := by decide +kernel
theorem dX4_closeLines_28 : decode cX4_closeLines 28 = .ok (.iload_n 1, 1) := by decide +kernel
theorem dX4_closeLines_29 : decode cX4_closeLines 29 = .ok (.invokestatic 41, 3) := by decide +kernel
theorem dX4_closeLines_32 : decode cX4_closeLines 32 = .ok (.iload_n 2, 1) := by decide +kernel
theorem dX4_closeLines_33 : decode cX4_closeLines 33 = .ok (.iload_n 3, 1) := by decide +kernel
theorem dX4_closeLines_34 : decode cX4_closeLines 34 = .ok (.invokestatic 65, 3) := by decide +kernel
theorem dX4_closeLines_37 : decode cX4_closeLines 37 = .ok (.invokevirtual 57, 3) := by decide +kernel
theorem dX4_closeLines_40 : decode cX4_closeLines 40 = .ok (.iinc 4 1, 3) := by decide +kernel
theorem dX4_closeLines_43 : decode cX4_closeLines 43 = .ok (.goto (-28), 3) := by decide +kernel
theorem dX4_closeLines_46 : decode cX4_closeLines 46 = .ok (.iconst 0, 1) := by decide +kernel
theorem dX4_closeLines_47 : decode cX4_closeLines 47 = .ok (.istore 4, 2) := by decide +kernel
theorem dX4_closeLines_49 : decode cX4_closeLines 49 = .ok (.iload 4, 2) := by decide +kernel
theorem dX4_closeLines_51 : decode cX4_closeLines 51 = .ok (.sipush 144, 3) := by decide +kernel
theorem dX4_closeLines_54 : decode cX4_closeLines 54 = .ok (.if_icmp .ge 29, 3) := by decide +kernel
theorem dX4_closeLines_57 : decode cX4_closeLines 57 = .ok (.aload_n 0, 1) := by decide +kernel
theorem dX4_closeLines_58 : decode cX4_closeLines 58 = .ok (.getfield 9, 3) := by decide +kernel
theorem dX4_closeLines_61 : decode cX4_closeLines 61 = .ok (.iload 4, 2) := by decide +kernel
theorem dX4_closeLines_63 : decode cX4_closeLines 63 = .ok (.aload_n 0, 1) := by decide +kernel
theorem dX4_closeLines_64 : decode cX4_closeLines 64 = .ok (.getfield 9, 3) := by decide +kernel
theorem dX4_closeLines_67 : decode cX4_closeLines 67 = .ok (.iload 4, 2) := by decide +kernel
theorem dX4_closeLines_69 : decode cX4_closeLines 69 = .ok (.iaload, 1) := by decide +kernel
theorem dX4_closeLines_70 : decode cX4_closeLines 70 = .ok (.iload_n 1, 1) := by decide +kernel
theorem dX4_closeLines_71 : decode cX4_closeLines 71 = .ok (.iload_n 2, 1) := by decide +kernel
theorem dX4_closeLines_72 : decode cX4_closeLines 72 = .ok (.iload_n 3, 1) := by decide +kernel
theorem dX4_closeLines_73 : decode cX4_closeLines 73 = .ok (.invokestatic 68, 3) := by decide +kernel
theorem dX4_closeLines_76 : decode cX4_closeLines 76 = .ok (.iastore, 1) := by decide +kernel
theorem dX4_closeLines_77 : decode cX4_closeLines 77 = .ok (.iinc 4 1, 3) := by decide +kernel
theorem dX4_closeLines_80 : decode cX4_closeLines 80 = .ok (.goto (-31), 3) := by decide +kernel
theorem dX4_closeLines_83 : decode cX4_closeLines 83 = .ok (.return_, 1) := by decide +kernel
theorem dX4_moveArea_0 : decode cX4_moveArea 0 = .ok (.aload_n 0, 1) := by decide +kernel
theorem dX4_moveArea_1 : decode cX4_moveArea 1 = .ok (.invokevirtual 48, 3) := by decide +kernel
theorem dX4_moveArea_4 : decode cX4_moveArea 4 = .ok (.iconst 0, 1) := by decide +kernel
theorem dX4_moveArea_5 : decode cX4_moveArea 5 = .ok (.istore_n 3, 1) := by decide +kernel
theorem dX4_moveArea_6 : decode cX4_moveArea 6 = .ok (.iload_n 3, 1) := by decide +kernel
theorem dX4_moveArea_7 : decode cX4_moveArea 7 = .ok (.aload_n 1, 1) := by decide +kernel
theorem dX4_moveArea_8 : decode cX4_moveArea 8 = .ok (.invokevirtual 71, 3) := by decide +kernel
theorem dX4_moveArea_11 : decode cX4_moveArea 11 = .ok (.if_icmp .ge 18, 3) := by decide +kernel
theorem dX4_moveArea_14 : decode cX4_moveArea 14 = .ok (.aload_n 0, 1) := by decide +kernel
theorem dX4_moveArea_15 : decode cX4_moveArea 15 = .ok (.aload_n 1, 1) := by decide +kernel
theorem dX4_moveArea_16 : decode cX4_moveArea 16 = .ok (.iload_n 3, 1) := by decide +kernel
theorem dX4_moveArea_17 : decode cX4_moveArea 17 = .ok (.invokevirtual 77, 3) := by decide +kernel
theorem dX4_moveArea_20 : decode cX4_moveArea 20 = .ok (.invokevirtual 81, 3) := by decide +kernel
theorem dX4_moveArea_23 : decode cX4_moveArea 23 = .ok (.iinc 3 1, 3) := by decide +kernel
theorem dX4_moveArea_26 : decode cX4_moveArea 26 = .ok (.goto (-20), 3) := by decide +kernel
theorem dX4_moveArea_29 : decode cX4_moveArea 29 = .ok (.iconst 0, 1) := by decide +kernel
theorem dX4_moveArea_30 : decode cX4_moveArea 30 = .ok (.istore_n 3, 1) := by decide +kernel
theorem dX4_moveArea_31 : decode cX4_moveArea 31 = .ok (.iload_n 3, 1) := by decide +kernel
theorem dX4_moveArea_32 : decode cX4_moveArea 32 = .ok (.aload_n 1, 1) := by decide +kernel
theorem dX4_moveArea_33 : decode cX4_moveArea 33 = .ok (.invokevirtual 71, 3) := by decide +kernel
theorem dX4_moveArea_36 : decode cX4_moveArea 36 = .ok (.if_icmp .ge 23, 3) := by decide +kernel
theorem dX4_moveArea_39 : decode cX4_moveArea 39 = .ok (.aload_n 0, 1) := by decide +kernel
theorem dX4_moveArea_40 : decode cX4_moveArea 40 = .ok (.aload_n 1, 1) := by decide +kernel
theorem dX4_moveArea_41 : decode cX4_moveArea 41 = .ok (.iload_n 3, 1) := by decide +kernel
theorem dX4_moveArea_42 : decode cX4_moveArea 42 = .ok (.invokevirtual 77, 3) := by decide +kernel
theorem dX4_moveArea_45 : decode cX4_moveArea 45 = .ok (.aload_n 2, 1) := by decide +kernel
theorem dX4_moveArea_46 : decode cX4_moveArea 46 = .ok (.iload_n 3, 1) := by decide +kernel
theorem dX4_moveArea_47 : decode cX4_moveArea 47 = .ok (.invokevirtual 77, 3) := by decide +kernel
theorem dX4_moveArea_50 : decode cX4_moveArea 50 = .ok (.invokevirtual 85, 3) := by decide +kernel
theorem dX4_moveArea_53 : decode cX4_moveArea 53 = .ok (.iinc 3 1, 3) := by decide +kernel
theorem dX4_moveArea_56 : decode cX4_moveArea 56 = .ok (.goto (-25), 3) := by decide +kernel
theorem dX4_moveArea_59 : decode cX4_moveArea 59 = .ok (.iconst 0, 1) := by decide +kernel
theorem dX4_moveArea_60 : decode cX4_moveArea 60 = .ok (.istore_n 3, 1) := by decide +kernel
theorem dX4_moveArea_61 : decode cX4_moveArea 61 = .ok (.iconst 0, 1) := by decide +kernel
theorem dX4_moveArea_62 : decode cX4_moveArea 62 = .ok (.istore 4, 2) := by decide +kernel
theorem dX4_moveArea_64 : decode cX4_moveArea 64 = .ok (.iload 4, 2) := by decide +kernel
theorem dX4_moveArea_66 : decode cX4_moveArea 66 = .ok (.sipush 144, 3) := by decide +kernel
theorem dX4_moveArea_69 : decode cX4_moveArea 69 = .ok (.if_icmp .ge 53, 3) := by decide +kernel
theorem dX4_moveArea_72 : decode cX4_moveArea 72 = .ok (.aload_n 0, 1) := by decide +kernel
theorem dX4_moveArea_73 : decode cX4_moveArea 73 = .ok (.getfield 9, 3) := by decide +kernel
theorem dX4_moveArea_76 : decode cX4_moveArea 76 = .ok (.iload 4, 2) := by decide +kernel
theorem dX4_moveArea_78 : decode cX4_moveArea 78 = .ok (.iaload, 1) := by decide +kernel
theorem dX4_moveArea_79 : decode cX4_moveArea 79 = .ok (.aload_n 1, 1) := by decide +kernel
theorem dX4_moveArea_80 : decode cX4_moveArea 80 = .ok (.aload_n 2, 1) := by decide +kernel
theorem dX4_moveArea_81 : decode cX4_moveArea 81 = .ok (.invokestatic 89, 3) := by decide +kernel
theorem dX4_moveArea_84 : decode cX4_moveArea 84 = .ok (.istore 5, 2) := by decide +kernel
theorem dX4_moveArea_86 : decode cX4_moveArea 86 = .ok (.iload 5, 2) := by decide +kernel
theorem dX4_moveArea_88 : decode cX4_moveArea 88 = .ok (.aload_n 0, 1) := by decide +kernel
theorem dX4_moveArea_89 : decode cX4_moveArea 89 = .ok (.getfield 9, 3) := by decide +kernel
theorem dX4_moveArea_92 : decode cX4_moveArea 92 = .ok (.iload 4, 2) := by decide +kernel
theorem dX4_moveArea_94 : decode cX4_moveArea 94 = .ok (.iaload, 1) := by decide +kernel
theorem dX4_moveArea_95 : decode cX4_moveArea 95 = .ok (.if_icmp .eq 12, 3) := by decide +kernel
theorem dX4_moveArea_98 : decode cX4_moveArea 98 = .ok (.iload 5, 2) := by decide +kernel
theorem dX4_moveArea_100 : decode cX4_moveArea 100 = .ok (.iconst 4, 1) := by decide +kernel
theorem dX4_moveArea_101 : decode cX4_moveArea 101 = .ok (.if_icmp .ne 6, 3) := by decide +kernel
theorem dX4_moveArea_104 : decode cX4_moveArea 104 = .ok (.iinc 3 1, 3) := by decide +kernel
theorem dX4_moveArea_107 : decode cX4_moveArea 107 = .ok (.aload_n 0, 1) := by decide +kernel
theorem dX4_moveArea_108 : decode cX4_moveArea 108 = .ok (.getfield 9, 3) := by decide +kernel
theorem dX4_moveArea_111 : decode cX4_moveArea 111 = .ok (.iload 4, 2) := by decide +kernel
theorem dX4_moveArea_113 : decode cX4_moveArea 113 = .ok (.iload 5, 2) := by decide +kernel
theorem dX4_moveArea_115 : decode cX4_moveArea 115 = .ok (.iastore, 1) := by decide +kernel
theorem dX4_moveArea_116 : decode cX4_moveArea 116 = .ok (.iinc 4 1, 3) := by decide +kernel
theorem dX4_moveArea_119 : decode cX4_moveArea 119 = .ok (.goto (-55), 3) := by decide +kernel
theorem dX4_moveArea_122 : decode cX4_moveArea 122 = .ok (.iload_n 3, 1) := by decide +kernel
theorem dX4_moveArea_123 : decode cX4_moveArea 123 = .ok (.ireturn, 1) := by decide +kernel
theorem dX4_copyArea_0 : decode cX4_copyArea 0 = .ok (.aload_n 0, 1) := by decide +kernel
theorem dX4_copyArea_1 : decode cX4_copyArea 1 = .ok (.invokevirtual 48, 3) := by decide +kernel
theorem dX4_copyArea_4 : decode cX4_copyArea 4 = .ok (.aload_n 2, 1) := by decide +kernel
theorem dX4_copyArea_5 : decode cX4_copyArea 5 = .ok (.getfield 93, 3) := by decide +kernel
theorem dX4_copyArea_8 : decode cX4_copyArea 8 = .ok (.aload_n 1, 1) := by decide +kernel
theorem dX4_copyArea_9 : decode cX4_copyArea 9 = .ok (.getfield 93, 3) := by decide +kernel
theorem dX4_copyArea_12 : decode cX4_copyArea 12 = .ok (.isub, 1) := by decide +kernel
theorem dX4_copyArea_13 : decode cX4_copyArea 13 = .ok (.istore_n 3, 1) := by decide +kernel
theorem dX4_copyArea_14 : decode cX4_copyArea 14 = .ok (.aload_n 2, 1) := by decide +kernel
theorem dX4_copyArea_15 : decode cX4_copyArea 15 = .ok (.getfield 97, 3) := by decide +kernel
theorem dX4_copyArea_18 : decode cX4_copyArea 18 = .ok (.aload_n 1, 1) := by decide +kernel
theorem dX4_copyArea_19 : decode cX4_copyArea 19 = .ok (.getfield 97, 3) := by decide +kernel
theorem dX4_copyArea_22 : decode cX4_copyArea 22 = .ok (.isub, 1) := by decide +kernel
theorem dX4_copyArea_23 : decode cX4_copyArea 23 = .ok (.istore 4, 2) := by decide +kernel
theorem dX4_copyArea_25 : decode cX4_copyArea 25 = .ok (.iconst 0, 1) := by decide +kernel
theorem dX4_copyArea_26 : decode cX4_copyArea 26 = .ok (.istore 5, 2) := by decide +kernel
theorem dX4_copyArea_28 : decode cX4_copyArea 28 = .ok (.iconst 0, 1) := by decide +kernel
theorem dX4_copyArea_29 : decode cX4_copyArea 29 = .ok (.istore 6, 2) := by decide +kernel
theorem dX4_copyArea_31 : decode cX4_copyArea 31 = .ok (.iload 6, 2) := by decide +kernel
theorem dX4_copyArea_33 : decode cX4_copyArea 33 = .ok (.aload_n 1, 1) := by decide +kernel
theorem dX4_copyArea_34 : decode cX4_copyArea 34 = .ok (.invokevirtual 71, 3) := by decide +kernel
theorem dX4_copyArea_37 : decode cX4_copyArea 37 = .ok (.if_icmp .ge 43, 3) := by decide +kernel
theorem dX4_copyArea_40 : decode cX4_copyArea 40 = .ok (.aload_n 0, 1) := by decide +kernel
theorem dX4_copyArea_41 : decode cX4_copyArea 41 = .ok (.aload_n 1, 1) := by decide +kernel
theorem dX4_copyArea_42 : decode cX4_copyArea 42 = .ok (.iload 6, 2) := by decide +kernel
theorem dX4_copyArea_44 : decode cX4_copyArea 44 = .ok (.invokevirtual 77, 3) := by decide +kernel
theorem dX4_copyArea_47 : decode cX4_copyArea 47 = .ok (.aload_n 2, 1) := by decide +kernel
theorem dX4_copyArea_48 : decode cX4_copyArea 48 = .ok (.iload 6, 2) := by decide +kernel
theorem dX4_copyArea_50 : decode cX4_copyArea 50 = .ok (.invokevirtual 77, 3) := by decide +kernel
theorem dX4_copyArea_53 : decode cX4_copyArea 53 = .ok (.invokevirtual 85, 3) := by decide +kernel
theorem dX4_copyArea_56 : decode cX4_copyArea 56 = .ok (.iload 5, 2) := by decide +kernel
theorem dX4_copyArea_58 : decode cX4_copyArea 58 = .ok (.aload_n 0, 1) := by decide +kernel
theorem dX4_copyArea_59 : decode cX4_copyArea 59 = .ok (.aload_n 2, 1) := by decide +kernel
theorem dX4_copyArea_60 : decode cX4_copyArea 60 = .ok (.iload 6, 2) := by decide +kernel
theorem dX4_copyArea_62 : decode cX4_copyArea 62 = .ok (.invokevirtual 77, 3) := by decide +kernel
theorem dX4_copyArea_65 : decode cX4_copyArea 65 = .ok (.iload_n 3, 1) := by decide +kernel
theorem dX4_copyArea_66 : decode cX4_copyArea 66 = .ok (.iload 4, 2) := by decide +kernel
theorem dX4_copyArea_68 : decode cX4_copyArea 68 = .ok (.invokevirtual 100, 3) := by decide +kernel
theorem dX4_copyArea_71 : decode cX4_copyArea 71 = .ok (.iadd, 1) := by decide +kernel
theorem dX4_copyArea_72 : decode cX4_copyArea 72 = .ok (.istore 5, 2) := by decide +kernel
theorem dX4_copyArea_74 : decode cX4_copyArea 74 = .ok (.iinc 6 1, 3) := by decide +kernel
theorem dX4_copyArea_77 : decode cX4_copyArea 77 = .ok (.goto (-46), 3) := by decide +kernel
theorem dX4_copyArea_80 : decode cX4_copyArea 80 = .ok (.iload 5, 2) := by decide +kernel
theorem dX4_copyArea_82 : decode cX4_copyArea 82 = .ok (.ireturn, 1) := by decide +kernel
theorem dX4_filledCells_0 : decode cX4_filledCells 0 = .ok (.iconst 0, 1) := by decide +kernel
theorem dX4_filledCells_1 : decode cX4_filledCells 1 = .ok (.istore_n 1, 1) := by decide +kernel
theorem dX4_filledCells_2 : decode cX4_filledCells 2 = .ok (.iconst 0, 1) := by decide +kernel
theorem dX4_filledCells_3 : decode cX4_filledCells 3 = .ok (.istore_n 2, 1) := by decide +kernel
theorem dX4_filledCells_4 : decode cX4_filledCells 4 = .ok (.iload_n 2, 1) := by decide +kernel
theorem dX4_filledCells_5 : decode cX4_filledCells 5 = .ok (.bipush 36, 2) := by decide +kernel
theorem dX4_filledCells_7 : decode cX4_filledCells 7 = .ok (.if_icmp .ge 20, 3) := by decide +kernel
theorem dX4_filledCells_10 : decode cX4_filledCells 10 = .ok (.aload_n 0, 1) := by decide +kernel
theorem dX4_filledCells_11 : decode cX4_filledCells 11 = .ok (.iload_n 2, 1) := by decide +kernel
theorem dX4_filledCells_12 : decode cX4_filledCells 12 = .ok (.invokevirtual 38, 3) := by decide +kernel
theorem dX4_filledCells_15 : decode cX4_filledCells 15 = .ok (.ifCond .ne 6, 3) := by decide +kernel
theorem dX4_filledCells_18 : decode cX4_filledCells 18 = .ok (.iinc 1 1, 3) := by decide +kernel
theorem dX4_filledCells_21 : decode cX4_filledCells 21 = .ok (.iinc 2 1, 3) := by decide +kernel
theorem dX4_filledCells_24 : decode cX4_filledCells 24 = .ok (.goto (-20), 3) := by decide +kernel
theorem dX4_filledCells_27 : decode cX4_filledCells 27 = .ok (.iload_n 1, 1) := by decide +kernel
theorem dX4_filledCells_28 : decode cX4_filledCells 28 = .ok (.ireturn, 1) := by decide +kernel
theorem dX4_allTerms_0 : decode cX4_allTerms 0 = .ok (.iconst 0, 1) := by decide +kernel
theorem dX4_allTerms_1 : decode cX4_allTerms 1 = .ok (.istore_n 1, 1) := by decide +kernel
theorem dX4_allTerms_2 : decode cX4_allTerms 2 = .ok (.iconst 0, 1) := by decide +kernel
theorem dX4_allTerms_3 : decode cX4_allTerms 3 = .ok (.istore_n 2, 1) := by decide +kernel
theorem dX4_allTerms_4 : decode cX4_allTerms 4 = .ok (.iload_n 2, 1) := by decide +kernel
theorem dX4_allTerms_5 : decode cX4_allTerms 5 = .ok (.sipush 144, 3) := by decide +kernel
theorem dX4_allTerms_8 : decode cX4_allTerms 8 = .ok (.if_icmp .ge 21, 3) := by decide +kernel
theorem dX4_allTerms_11 : decode cX4_allTerms 11 = .ok (.aload_n 0, 1) := by decide +kernel
theorem dX4_allTerms_12 : decode cX4_allTerms 12 = .ok (.getfield 9, 3) := by decide +kernel
theorem dX4_allTerms_15 : decode cX4_allTerms 15 = .ok (.iload_n 2, 1) := by decide +kernel
theorem dX4_allTerms_16 : decode cX4_allTerms 16 = .ok (.iaload, 1) := by decide +kernel
theorem dX4_allTerms_17 : decode cX4_allTerms 17 = .ok (.ifCond .eq 6, 3) := by decide +kernel
theorem dX4_allTerms_20 : decode cX4_allTerms 20 = .ok (.iinc 1 1, 3) := by decide +kernel
theorem dX4_allTerms_23 : decode cX4_allTerms 23 = .ok (.iinc 2 1, 3) := by decide +kernel
theorem dX4_allTerms_26 : decode cX4_allTerms 26 = .ok (.goto (-22), 3) := by decide +kernel
theorem dX4_allTerms_29 : decode cX4_allTerms 29 = .ok (.iload_n 1, 1) := by decide +kernel
theorem dX4_allTerms_30 : decode cX4_allTerms 30 = .ok (.ireturn, 1) := by decide +kernel
theorem dX4_brokenTerms_0 : decode cX4_brokenTerms 0 = .ok (.iconst 0, 1) := by decide +kernel
theorem dX4_brokenTerms_1 : decode cX4_brokenTerms 1 = .ok (.istore_n 1, 1) := by decide +kernel
theorem dX4_brokenTerms_2 : decode cX4_brokenTerms 2 = .ok (.iconst 0, 1) := by decide +kernel
theorem dX4_brokenTerms_3 : decode cX4_brokenTerms 3 = .ok (.istore_n 2, 1) := by decide +kernel
theorem dX4_brokenTerms_4 : decode cX4_brokenTerms 4 = .ok (.iload_n 2, 1) := by decide +kernel
theorem dX4_brokenTerms_5 : decode cX4_brokenTerms 5 = .ok (.sipush 144, 3) := by decide +kernel
theorem dX4_brokenTerms_8 : decode cX4_brokenTerms 8 = .ok (.if_icmp .ge 22, 3) := by decide +kernel
theorem dX4_brokenTerms_11 : decode cX4_brokenTerms 11 = .ok (.aload_n 0, 1) := by decide +kernel
theorem dX4_brokenTerms_12 : decode cX4_brokenTerms 12 = .ok (.getfield 9, 3) := by decide +kernel
theorem dX4_brokenTerms_15 : decode cX4_brokenTerms 15 = .ok (.iload_n 2, 1) := by decide +kernel
theorem dX4_brokenTerms_16 : decode cX4_brokenTerms 16 = .ok (.iaload, 1) := by decide +kernel
theorem dX4_brokenTerms_17 : decode cX4_brokenTerms 17 = .ok (.iconst 4, 1) := by decide +kernel
theorem dX4_brokenTerms_18 : decode cX4_brokenTerms 18 = .ok (.if_icmp .ne 6, 3) := by decide +kernel
theorem dX4_brokenTerms_21 : decode cX4_brokenTerms 21 = .ok (.iinc 1 1, 3) := by decide +kernel
theorem dX4_brokenTerms_24 : decode cX4_brokenTerms 24 = .ok (.iinc 2 1, 3) := by decide +kernel
theorem dX4_brokenTerms_27 : decode cX4_brokenTerms 27 = .ok (.goto (-23), 3) := by decide +kernel
theorem dX4_brokenTerms_30 : decode cX4_brokenTerms 30 = .ok (.iload_n 1, 1) := by decide +kernel
theorem dX4_brokenTerms_31 : decode cX4_brokenTerms 31 = .ok (.ireturn, 1) := by decide +kernel
theorem dX4_referencesTo_0 : decode cX4_referencesTo 0 = .ok (.iconst 0, 1) := by decide +kernel
theorem dX4_referencesTo_1 : decode cX4_referencesTo 1 = .ok (.istore_n 3, 1) := by decide +kernel
theorem dX4_referencesTo_2 : decode cX4_referencesTo 2 = .ok (.iconst 0, 1) := by decide +kernel
theorem dX4_referencesTo_3 : decode cX4_referencesTo 3 = .ok (.istore 4, 2) := by decide +kernel
theorem dX4_referencesTo_5 : decode cX4_referencesTo 5 = .ok (.iload 4, 2) := by decide +kernel
theorem dX4_referencesTo_7 : decode cX4_referencesTo 7 = .ok (.sipush 144, 3) := by decide +kernel
theorem dX4_referencesTo_10 : decode cX4_referencesTo 10 = .ok (.if_icmp .ge 67, 3) := by decide +kernel
theorem dX4_referencesTo_13 : decode cX4_referencesTo 13 = .ok (.aload_n 0, 1) := by decide +kernel
theorem dX4_referencesTo_14 : decode cX4_referencesTo 14 = .ok (.getfield 9, 3) := by decide +kernel
theorem dX4_referencesTo_17 : decode cX4_referencesTo 17 = .ok (.iload 4, 2) := by decide +kernel
theorem dX4_referencesTo_19 : decode cX4_referencesTo 19 = .ok (.iaload, 1) := by decide +kernel
theorem dX4_referencesTo_20 : decode cX4_referencesTo 20 = .ok (.istore 5, 2) := by decide +kernel
theorem dX4_referencesTo_22 : decode cX4_referencesTo 22 = .ok (.iload 5, 2) := by decide +kernel
theorem dX4_referencesTo_24 : decode cX4_referencesTo 24 = .ok (.invokestatic 103, 3) := by decide +kernel
theorem dX4_referencesTo_27 : decode cX4_referencesTo 27 = .ok (.ifCond .eq 44, 3) := by decide +kernel
theorem dX4_referencesTo_30 : decode cX4_referencesTo 30 = .ok (.iload_n 1, 1) := by decide +kernel
theorem dX4_referencesTo_31 : decode cX4_referencesTo 31 = .ok (.iload 5, 2) := by decide +kernel
theorem dX4_referencesTo_33 : decode cX4_referencesTo 33 = .ok (.iconst 0, 1) := by decide +kernel
theorem dX4_referencesTo_34 : decode cX4_referencesTo 34 = .ok (.invokestatic 106, 3) := by decide +kernel
theorem dX4_referencesTo_37 : decode cX4_referencesTo 37 = .ok (.iload 5, 2) := by decide +kernel
theorem dX4_referencesTo_39 : decode cX4_referencesTo 39 = .ok (.iconst 0, 1) := by decide +kernel
theorem dX4_referencesTo_40 : decode cX4_referencesTo 40 = .ok (.invokestatic 109, 3) := by decide +kernel
theorem dX4_referencesTo_43 : decode cX4_referencesTo 43 = .ok (.invokestatic 22, 3) := by decide +kernel
theorem dX4_referencesTo_46 : decode cX4_referencesTo 46 = .ok (.ifCond .eq 25, 3) := by decide +kernel
theorem dX4_referencesTo_49 : decode cX4_referencesTo 49 = .ok (.iload_n 2, 1) := by decide +kernel
theorem dX4_referencesTo_50 : decode cX4_referencesTo 50 = .ok (.iload 5, 2) := by decide +kernel
theorem dX4_referencesTo_52 : decode cX4_referencesTo 52 = .ok (.iconst 1, 1) := by decide +kernel
theorem dX4_referencesTo_53 : decode cX4_referencesTo 53 = .ok (.invokestatic 106, 3) := by decide +kernel
theorem dX4_referencesTo_56 : decode cX4_referencesTo 56 = .ok (.iload 5, 2) := by decide +kernel
theorem dX4_referencesTo_58 : decode cX4_referencesTo 58 = .ok (.iconst 1, 1) := by decide +kernel
theorem dX4_referencesTo_59 : decode cX4_referencesTo 59 = .ok (.invokestatic 109, 3) := by decide +kernel
theorem dX4_referencesTo_62 : decode cX4_referencesTo 62 = .ok (.invokestatic 22, 3) := by decide +kernel
theorem dX4_referencesTo_65 : decode cX4_referencesTo 65 = .ok (.ifCond .eq 6, 3) := by decide +kernel
theorem dX4_referencesTo_68 : decode cX4_referencesTo 68 = .ok (.iinc 3 1, 3) := by decide +kernel
theorem dX4_referencesTo_71 : decode cX4_referencesTo 71 = .ok (.iinc 4 1, 3) := by decide +kernel
theorem dX4_referencesTo_74 : decode cX4_referencesTo 74 = .ok (.goto (-69), 3) := by decide +kernel
theorem dX4_referencesTo_77 : decode cX4_referencesTo 77 = .ok (.iload_n 3, 1) := by decide +kernel
theorem dX4_referencesTo_78 : decode cX4_referencesTo 78 = .ok (.ireturn, 1) := by decide +kernel
theorem dX4_lookAhead_0 : decode cX4_lookAhead 0 = .ok (.aload_n 0, 1) := by decide +kernel
theorem dX4_lookAhead_1 : decode cX4_lookAhead 1 = .ok (.getfield 9, 3) := by decide +kernel
theorem dX4_lookAhead_4 : decode cX4_lookAhead 4 = .ok (.iconst 0, 1) := by decide +kernel
theorem dX4_lookAhead_5 : decode cX4_lookAhead 5 = .ok (.aload_n 0, 1) := by decide +kernel
theorem dX4_lookAhead_6 : decode cX4_lookAhead 6 = .ok (.getfield 15, 3) := by decide +kernel
theorem dX4_lookAhead_9 : decode cX4_lookAhead 9 = .ok (.iconst 0, 1) := by decide +kernel
theorem dX4_lookAhead_10 : decode cX4_lookAhead 10 = .ok (.sipush 144, 3) := by decide +kernel
theorem dX4_lookAhead_13 : decode cX4_lookAhead 13 = .ok (.invokestatic 32, 3) := by decide +kernel
theorem dX4_lookAhead_16 : decode cX4_lookAhead 16 = .ok (.return_, 1) := by decide +kernel
theorem dX4_takeTo_0 : decode cX4_takeTo 0 = .ok (.iload_n 1, 1) := by decide +kernel
theorem dX4_takeTo_1 : decode cX4_takeTo 1 = .ok (.invokestatic 18, 3) := by decide +kernel
theorem dX4_takeTo_4 : decode cX4_takeTo 4 = .ok (.ifCond .eq 30, 3) := by decide +kernel
theorem dX4_takeTo_7 : decode cX4_takeTo 7 = .ok (.iload_n 2, 1) := by decide +kernel
theorem dX4_takeTo_8 : decode cX4_takeTo 8 = .ok (.invokestatic 18, 3) := by decide +kernel
theorem dX4_takeTo_11 : decode cX4_takeTo 11 = .ok (.ifCond .eq 23, 3) := by decide +kernel
theorem dX4_takeTo_14 : decode cX4_takeTo 14 = .ok (.iload_n 1, 1) := by decide +kernel
theorem dX4_takeTo_15 : decode cX4_takeTo 15 = .ok (.iconst 4, 1) := by decide +kernel
theorem dX4_takeTo_16 : decode cX4_takeTo 16 = .ok (.imul, 1) := by decide +kernel
theorem dX4_takeTo_17 : decode cX4_takeTo 17 = .ok (.istore_n 3, 1) := by decide +kernel
theorem dX4_takeTo_18 : decode cX4_takeTo 18 = .ok (.aload_n 0, 1) := by decide +kernel
theorem dX4_takeTo_19 : decode cX4_takeTo 19 = .ok (.getfield 15, 3) := by decide +kernel
theorem dX4_takeTo_22 : decode cX4_takeTo 22 = .ok (.iload_n 3, 1) := by decide +kernel
theorem dX4_takeTo_23 : decode cX4_takeTo 23 = .ok (.aload_n 0, 1) := by decide +kernel
theorem dX4_takeTo_24 : decode cX4_takeTo 24 = .ok (.getfield 9, 3) := by decide +kernel
theorem dX4_takeTo_27 : decode cX4_takeTo 27 = .ok (.iload_n 2, 1) := by decide +kernel
theorem dX4_takeTo_28 : decode cX4_takeTo 28 = .ok (.iconst 4, 1) := by decide +kernel
theorem dX4_takeTo_29 : decode cX4_takeTo 29 = .ok (.imul, 1) := by decide +kernel
theorem dX4_takeTo_30 : decode cX4_takeTo 30 = .ok (.iconst 4, 1) := by decide +kernel
theorem dX4_takeTo_31 : decode cX4_takeTo 31 = .ok (.invokestatic 32, 3) := by decide +kernel
theorem dX4_takeTo_34 : decode cX4_takeTo 34 = .ok (.return_, 1) := by decide +kernel
theorem dX4_takeAlong_0 : decode cX4_takeAlong 0 = .ok (.iload_n 3, 1) := by decide +kernel
theorem dX4_takeAlong_1 : decode cX4_takeAlong 1 = .ok (.iconst (-1), 1) := by decide +kernel
theorem dX4_takeAlong_2 : decode cX4_takeAlong 2 = .ok (.if_icmp .eq 32, 3) := by decide +kernel
theorem dX4_takeAlong_5 : decode cX4_takeAlong 5 = .ok (.iload_n 3, 1) := by decide +kernel
theorem dX4_takeAlong_6 : decode cX4_takeAlong 6 = .ok (.iload_n 1, 1) := by decide +kernel
theorem dX4_takeAlong_7 : decode cX4_takeAlong 7 = .ok (.iload_n 2, 1) := by decide +kernel
theorem dX4_takeAlong_8 : decode cX4_takeAlong 8 = .ok (.invokestatic 41, 3) := by decide +kernel
theorem dX4_takeAlong_11 : decode cX4_takeAlong 11 = .ok (.isub, 1) := by decide +kernel
theorem dX4_takeAlong_12 : decode cX4_takeAlong 12 = .ok (.istore 4, 2) := by decide +kernel
theorem dX4_takeAlong_14 : decode cX4_takeAlong 14 = .ok (.aload_n 0, 1) := by decide +kernel
theorem dX4_takeAlong_15 : decode cX4_takeAlong 15 = .ok (.iload_n 1, 1) := by decide +kernel
theorem dX4_takeAlong_16 : decode cX4_takeAlong 16 = .ok (.iload_n 1, 1) := by decide +kernel
theorem dX4_takeAlong_17 : decode cX4_takeAlong 17 = .ok (.iload 4, 2) := by decide +kernel
theorem dX4_takeAlong_19 : decode cX4_takeAlong 19 = .ok (.iload_n 2, 1) := by decide +kernel
theorem dX4_takeAlong_20 : decode cX4_takeAlong 20 = .ok (.ifCond .ne 7, 3) := by decide +kernel
theorem dX4_takeAlong_23 : decode cX4_takeAlong 23 = .ok (.iconst 1, 1) := by decide +kernel
theorem dX4_takeAlong_24 : decode cX4_takeAlong 24 = .ok (.goto 5, 3) := by decide +kernel
theorem dX4_takeAlong_27 : decode cX4_takeAlong 27 = .ok (.bipush 6, 2) := by decide +kernel
theorem dX4_takeAlong_29 : decode cX4_takeAlong 29 = .ok (.imul, 1) := by decide +kernel
theorem dX4_takeAlong_30 : decode cX4_takeAlong 30 = .ok (.iadd, 1) := by decide +kernel
theorem dX4_takeAlong_31 : decode cX4_takeAlong 31 = .ok (.invokevirtual 85, 3) := by decide +kernel
theorem dX4_takeAlong_34 : decode cX4_takeAlong 34 = .ok (.return_, 1) := by decide +kernel
theorem dX4_spreadTerms_0 : decode cX4_spreadTerms 0 = .ok (.iconst 0, 1) := by decide +kernel
theorem dX4_spreadTerms_1 : decode cX4_spreadTerms 1 = .ok (.istore 4, 2) := by decide +kernel
theorem dX4_spreadTerms_3 : decode cX4_spreadTerms 3 = .ok (.iconst 0, 1) := by decide +kernel
theorem dX4_spreadTerms_4 : decode cX4_spreadTerms 4 = .ok (.istore 5, 2) := by decide +kernel
theorem dX4_spreadTerms_6 : decode cX4_spreadTerms 6 = .ok (.iload 5, 2) := by decide +kernel
theorem dX4_spreadTerms_8 : decode cX4_spreadTerms 8 = .ok (.iconst 4, 1) := by decide +kernel
theorem dX4_spreadTerms_9 : decode cX4_spreadTerms 9 = .ok (.if_icmp .ge 66, 3) := by decide +kernel
theorem dX4_spreadTerms_12 : decode cX4_spreadTerms 12 = .ok (.iload_n 1, 1) := by decide +kernel
theorem dX4_spreadTerms_13 : decode cX4_spreadTerms 13 = .ok (.invokestatic 18, 3) := by decide +kernel
theorem dX4_spreadTerms_16 : decode cX4_spreadTerms 16 = .ok (.ifCond .eq 59, 3) := by decide +kernel
theorem dX4_spreadTerms_19 : decode cX4_spreadTerms 19 = .ok (.iload_n 1, 1) := by decide +kernel
theorem dX4_spreadTerms_20 : decode cX4_spreadTerms 20 = .ok (.iconst 4, 1) := by decide +kernel
theorem dX4_spreadTerms_21 : decode cX4_spreadTerms 21 = .ok (.imul, 1) := by decide +kernel
theorem dX4_spreadTerms_22 : decode cX4_spreadTerms 22 = .ok (.iload 5, 2) := by decide +kernel
theorem dX4_spreadTerms_24 : decode cX4_spreadTerms 24 = .ok (.iadd, 1) := by decide +kernel
theorem dX4_spreadTerms_25 : decode cX4_spreadTerms 25 = .ok (.istore 6, 2) := by decide +kernel
theorem dX4_spreadTerms_27 : decode cX4_spreadTerms 27 = .ok (.aload_n 0, 1) := by decide +kernel
theorem dX4_spreadTerms_28 : decode cX4_spreadTerms 28 = .ok (.getfield 9, 3) := by decide +kernel
theorem dX4_spreadTerms_31 : decode cX4_spreadTerms 31 = .ok (.iload 6, 2) := by decide +kernel
theorem dX4_spreadTerms_33 : decode cX4_spreadTerms 33 = .ok (.iaload, 1) := by decide +kernel
theorem dX4_spreadTerms_34 : decode cX4_spreadTerms 34 = .ok (.istore 7, 2) := by decide +kernel
theorem dX4_spreadTerms_36 : decode cX4_spreadTerms 36 = .ok (.aload_n 0, 1) := by decide +kernel
theorem dX4_spreadTerms_37 : decode cX4_spreadTerms 37 = .ok (.getfield 9, 3) := by decide +kernel
theorem dX4_spreadTerms_40 : decode cX4_spreadTerms 40 = .ok (.iload 6, 2) := by decide +kernel
theorem dX4_spreadTerms_42 : decode cX4_spreadTerms 42 = .ok (.iload 7, 2) := by decide +kernel
theorem dX4_spreadTerms_44 : decode cX4_spreadTerms 44 = .ok (.iload_n 2, 1) := by decide +kernel
theorem dX4_spreadTerms_45 : decode cX4_spreadTerms 45 = .ok (.iload_n 3, 1) := by decide +kernel
theorem dX4_spreadTerms_46 : decode cX4_spreadTerms 46 = .ok (.iload 7, 2) := by decide +kernel
theorem dX4_spreadTerms_48 : decode cX4_spreadTerms 48 = .ok (.invokestatic 112, 3) := by decide +kernel
theorem dX4_spreadTerms_51 : decode cX4_spreadTerms 51 = .ok (.invokestatic 115, 3) := by decide +kernel
theorem dX4_spreadTerms_54 : decode cX4_spreadTerms 54 = .ok (.iastore, 1) := by decide +kernel
theorem dX4_spreadTerms_55 : decode cX4_spreadTerms 55 = .ok (.aload_n 0, 1) := by decide +kernel
theorem dX4_spreadTerms_56 : decode cX4_spreadTerms 56 = .ok (.getfield 9, 3) := by decide +kernel
theorem dX4_spreadTerms_59 : decode cX4_spreadTerms 59 = .ok (.iload 6, 2) := by decide +kernel
theorem dX4_spreadTerms_61 : decode cX4_spreadTerms 61 = .ok (.iaload, 1) := by decide +kernel
theorem dX4_spreadTerms_62 : decode cX4_spreadTerms 62 = .ok (.iconst 4, 1) := by decide +kernel
theorem dX4_spreadTerms_63 : decode cX4_spreadTerms 63 = .ok (.if_icmp .ne 6, 3) := by decide +kernel
theorem dX4_spreadTerms_66 : decode cX4_spreadTerms 66 = .ok (.iinc 4 1, 3) := by decide +kernel
theorem dX4_spreadTerms_69 : decode cX4_spreadTerms 69 = .ok (.iinc 5 1, 3) := by decide +kernel
theorem dX4_spreadTerms_72 : decode cX4_spreadTerms 72 = .ok (.goto (-66), 3) := by decide +kernel
theorem dX4_spreadTerms_75 : decode cX4_spreadTerms 75 = .ok (.iload 4, 2) := by decide +kernel
theorem dX4_spreadTerms_77 : decode cX4_spreadTerms 77 = .ok (.ireturn, 1) := by decide +kernel
theorem dX4_whenMoved_0 : decode cX4_whenMoved 0 = .ok (.iload_n 0, 1) := by decide +kernel
theorem dX4_whenMoved_1 : decode cX4_whenMoved 1 = .ok (.invokestatic 103, 3) := by decide +kernel
theorem dX4_whenMoved_4 : decode cX4_whenMoved 4 = .ok (.ifCond .ne 5, 3) := by decide +kernel
theorem dX4_whenMoved_7 : decode cX4_whenMoved 7 = .ok (.iload_n 0, 1) := by decide +kernel
theorem dX4_whenMoved_8 : decode cX4_whenMoved 8 = .ok (.ireturn, 1) := by decide +kernel
theorem dX4_whenMoved_9 : decode cX4_whenMoved 9 = .ok (.aload_n 1, 1) := by decide +kernel
theorem dX4_whenMoved_10 : decode cX4_whenMoved 10 = .ok (.iload_n 0, 1) := by decide +kernel
theorem dX4_whenMoved_11 : decode cX4_whenMoved 11 = .ok (.invokevirtual 118, 3) := by decide +kernel
theorem dX4_whenMoved_14 : decode cX4_whenMoved 14 = .ok (.ifCond .eq 29, 3) := by decide +kernel
theorem dX4_whenMoved_17 : decode cX4_whenMoved 17 = .ok (.aload_n 2, 1) := by decide +kernel
theorem dX4_whenMoved_18 : decode cX4_whenMoved 18 = .ok (.getfield 93, 3) := by decide +kernel
theorem dX4_whenMoved_21 : decode cX4_whenMoved 21 = .ok (.aload_n 1, 1) := by decide +kernel
theorem dX4_whenMoved_22 : decode cX4_whenMoved 22 = .ok (.getfield 93, 3) := by decide +kernel
theorem dX4_whenMoved_25 : decode cX4_whenMoved 25 = .ok (.isub, 1) := by decide +kernel
theorem dX4_whenMoved_26 : decode cX4_whenMoved 26 = .ok (.istore_n 3, 1) := by decide +kernel
theorem dX4_whenMoved_27 : decode cX4_whenMoved 27 = .ok (.iload_n 0, 1) := by decide +kernel
theorem dX4_whenMoved_28 : decode cX4_whenMoved 28 = .ok (.iload_n 3, 1) := by decide +kernel
theorem dX4_whenMoved_29 : decode cX4_whenMoved 29 = .ok (.aload_n 2, 1) := by decide +kernel
theorem dX4_whenMoved_30 : decode cX4_whenMoved 30 = .ok (.getfield 97, 3) := by decide +kernel
theorem dX4_whenMoved_33 : decode cX4_whenMoved 33 = .ok (.aload_n 1, 1) := by decide +kernel
theorem dX4_whenMoved_34 : decode cX4_whenMoved 34 = .ok (.getfield 97, 3) := by decide +kernel
theorem dX4_whenMoved_37 : decode cX4_whenMoved 37 = .ok (.isub, 1) := by decide +kernel
theorem dX4_whenMoved_38 : decode cX4_whenMoved 38 = .ok (.iconst 0, 1) := by decide +kernel
theorem dX4_whenMoved_39 : decode cX4_whenMoved 39 = .ok (.invokestatic 115, 3) := by decide +kernel
theorem dX4_whenMoved_42 : decode cX4_whenMoved 42 = .ok (.ireturn, 1) := by decide +kernel
theorem dX4_whenMoved_43 : decode cX4_whenMoved 43 = .ok (.aload_n 2, 1) := by decide +kernel
theorem dX4_whenMoved_44 : decode cX4_whenMoved 44 = .ok (.iload_n 0, 1) := by decide +kernel
theorem dX4_whenMoved_45 : decode cX4_whenMoved 45 = .ok (.invokevirtual 118, 3) := by decide +kernel
theorem dX4_whenMoved_48 : decode cX4_whenMoved 48 = .ok (.ifCond .eq 7, 3) := by decide +kernel
theorem dX4_whenMoved_51 : decode cX4_whenMoved 51 = .ok (.iconst 4, 1) := by decide +kernel
theorem dX4_whenMoved_52 : decode cX4_whenMoved 52 = .ok (.goto 4, 3) := by decide +kernel
theorem dX4_whenMoved_55 : decode cX4_whenMoved 55 = .ok (.iload_n 0, 1) := by decide +kernel
theorem dX4_whenMoved_56 : decode cX4_whenMoved 56 = .ok (.ireturn, 1) := by decide +kernel
theorem dX4_lineOf_0 : decode cX4_lineOf 0 = .ok (.iload_n 1, 1) := by decide +kernel
theorem dX4_lineOf_1 : decode cX4_lineOf 1 = .ok (.ifCond .ne 10, 3) := by decide +kernel
theorem dX4_lineOf_4 : decode cX4_lineOf 4 = .ok (.iload_n 0, 1) := by decide +kernel
theorem dX4_lineOf_5 : decode cX4_lineOf 5 = .ok (.invokestatic 121, 3) := by decide +kernel
theorem dX4_lineOf_8 : decode cX4_lineOf 8 = .ok (.goto 7, 3) := by decide +kernel
theorem dX4_lineOf_11 : decode cX4_lineOf 11 = .ok (.iload_n 0, 1) := by decide +kernel
theorem dX4_lineOf_12 : decode cX4_lineOf 12 = .ok (.invokestatic 124, 3) := by decide +kernel
theorem dX4_lineOf_15 : decode cX4_lineOf 15 = .ok (.ireturn, 1) := by decide +kernel
theorem dX4_lineAfterComing_0 : decode cX4_lineAfterComing 0 = .ok (.iload_n 0, 1) := by decide +kernel
theorem dX4_lineAfterComing_1 : decode cX4_lineAfterComing 1 = .ok (.iload_n 1, 1) := by decide +kernel
theorem dX4_lineAfterComing_2 : decode cX4_lineAfterComing 2 = .ok (.if_icmp .ge 5, 3) := by decide +kernel
theorem dX4_lineAfterComing_5 : decode cX4_lineAfterComing 5 = .ok (.iload_n 0, 1) := by decide +kernel
theorem dX4_lineAfterComing_6 : decode cX4_lineAfterComing 6 = .ok (.ireturn, 1) := by decide +kernel
theorem dX4_lineAfterComing_7 : decode cX4_lineAfterComing 7 = .ok (.iload_n 0, 1) := by decide +kernel
theorem dX4_lineAfterComing_8 : decode cX4_lineAfterComing 8 = .ok (.iload_n 2, 1) := by decide +kernel
theorem dX4_lineAfterComing_9 : decode cX4_lineAfterComing 9 = .ok (.iadd, 1) := by decide +kernel
theorem dX4_lineAfterComing_10 : decode cX4_lineAfterComing 10 = .ok (.bipush 6, 2) := by decide +kernel
theorem dX4_lineAfterComing_12 : decode cX4_lineAfterComing 12 = .ok (.if_icmp .ge 9, 3) := by decide +kernel
theorem dX4_lineAfterComing_15 : decode cX4_lineAfterComing 15 = .ok (.iload_n 0, 1) := by decide +kernel
theorem dX4_lineAfterComing_16 : decode cX4_lineAfterComing 16 = .ok (.iload_n 2, 1) := by decide +kernel
theorem dX4_lineAfterComing_17 : decode cX4_lineAfterComing 17 = .ok (.iadd, 1) := by decide +kernel
theorem dX4_lineAfterComing_18 : decode cX4_lineAfterComing 18 = .ok (.goto 4, 3) := by decide +kernel
theorem dX4_lineAfterComing_21 : decode cX4_lineAfterComing 21 = .ok (.iconst (-1), 1) := by decide +kernel
theorem dX4_lineAfterComing_22 : decode cX4_lineAfterComing 22 = .ok (.ireturn, 1) := by decide +kernel
theorem dX4_lineAfterGoing_0 : decode cX4_lineAfterGoing 0 = .ok (.iload_n 0, 1) := by decide +kernel
theorem dX4_lineAfterGoing_1 : decode cX4_lineAfterGoing 1 = .ok (.iload_n 1, 1) := by decide +kernel
theorem dX4_lineAfterGoing_2 : decode cX4_lineAfterGoing 2 = .ok (.if_icmp .ge 5, 3) := by decide +kernel
theorem dX4_lineAfterGoing_5 : decode cX4_lineAfterGoing 5 = .ok (.iload_n 0, 1) := by decide +kernel
theorem dX4_lineAfterGoing_6 : decode cX4_lineAfterGoing 6 = .ok (.ireturn, 1) := by decide +kernel
theorem dX4_lineAfterGoing_7 : decode cX4_lineAfterGoing 7 = .ok (.iload_n 0, 1) := by decide +kernel
theorem dX4_lineAfterGoing_8 : decode cX4_lineAfterGoing 8 = .ok (.iload_n 1, 1) := by decide +kernel
theorem dX4_lineAfterGoing_9 : decode cX4_lineAfterGoing 9 = .ok (.iload_n 2, 1) := by decide +kernel
theorem dX4_lineAfterGoing_10 : decode cX4_lineAfterGoing 10 = .ok (.iadd, 1) := by decide +kernel
theorem dX4_lineAfterGoing_11 : decode cX4_lineAfterGoing 11 = .ok (.if_icmp .lt 9, 3) := by decide +kernel
theorem dX4_lineAfterGoing_14 : decode cX4_lineAfterGoing 14 = .ok (.iload_n 0, 1) := by decide +kernel
theorem dX4_lineAfterGoing_15 : decode cX4_lineAfterGoing 15 = .ok (.iload_n 2, 1) := by decide +kernel
theorem dX4_lineAfterGoing_16 : decode cX4_lineAfterGoing 16 = .ok (.isub, 1) := by decide +kernel
theorem dX4_lineAfterGoing_17 : decode cX4_lineAfterGoing 17 = .ok (.goto 4, 3) := by decide +kernel
theorem dX4_lineAfterGoing_20 : decode cX4_lineAfterGoing 20 = .ok (.iconst (-1), 1) := by decide +kernel
theorem dX4_lineAfterGoing_21 : decode cX4_lineAfterGoing 21 = .ok (.ireturn, 1) := by decide +kernel
theorem dX5_ofNumber_0 : decode cX5_ofNumber 0 = .ok (.iconst 1, 1) := by decide +kernel
theorem dX5_ofNumber_1 : decode cX5_ofNumber 1 = .ok (.iload_n 0, 1) := by decide +kernel
theorem dX5_ofNumber_2 : decode cX5_ofNumber 2 = .ok (.bipush 7, 2) := by decide +kernel
theorem dX5_ofNumber_4 : decode cX5_ofNumber 4 = .ok (.ishl, 1) := by decide +kernel
theorem dX5_ofNumber_5 : decode cX5_ofNumber 5 = .ok (.ior, 1) := by decide +kernel
theorem dX5_ofNumber_6 : decode cX5_ofNumber 6 = .ok (.ireturn, 1) := by decide +kernel
theorem dX5_ofPlace_0 : decode cX5_ofPlace 0 = .ok (.iconst 2, 1) := by decide +kernel
theorem dX5_ofPlace_1 : decode cX5_ofPlace 1 = .ok (.iload_n 2, 1) := by decide +kernel
theorem dX5_ofPlace_2 : decode cX5_ofPlace 2 = .ok (.iconst 3, 1) := by decide +kernel
theorem dX5_ofPlace_3 : decode cX5_ofPlace 3 = .ok (.ishl, 1) := by decide +kernel
theorem dX5_ofPlace_4 : decode cX5_ofPlace 4 = .ok (.ior, 1) := by decide +kernel
theorem dX5_ofPlace_5 : decode cX5_ofPlace 5 = .ok (.istore_n 3, 1) := by decide +kernel
theorem dX5_ofPlace_6 : decode cX5_ofPlace 6 = .ok (.iload_n 3, 1) := by decide +kernel
theorem dX5_ofPlace_7 : decode cX5_ofPlace 7 = .ok (.iconst 0, 1) := by decide +kernel
theorem dX5_ofPlace_8 : decode cX5_ofPlace 8 = .ok (.iload_n 0, 1) := by decide +kernel
theorem dX5_ofPlace_9 : decode cX5_ofPlace 9 = .ok (.invokestatic 11, 3) := by decide +kernel
theorem dX5_ofPlace_12 : decode cX5_ofPlace 12 = .ok (.iconst 1, 1) := by decide +kernel
theorem dX5_ofPlace_13 : decode cX5_ofPlace 13 = .ok (.iload_n 1, 1) := by decide +kernel
theorem dX5_ofPlace_14 : decode cX5_ofPlace 14 = .ok (.invokestatic 11, 3) := by decide +kernel
theorem dX5_ofPlace_17 : decode cX5_ofPlace 17 = .ok (.ireturn, 1) := by decide +kernel
theorem dX5_ofBlock_0 : decode cX5_ofBlock 0 = .ok (.iload_n 0, 1) := by decide +kernel
theorem dX5_ofBlock_1 : decode cX5_ofBlock 1 = .ok (.invokestatic 15, 3) := by decide +kernel
theorem dX5_ofBlock_4 : decode cX5_ofBlock 4 = .ok (.iload_n 1, 1) := by decide +kernel
theorem dX5_ofBlock_5 : decode cX5_ofBlock 5 = .ok (.invokestatic 15, 3) := by decide +kernel
theorem dX5_ofBlock_8 : decode cX5_ofBlock 8 = .ok (.iconst 2, 1) := by decide +kernel
theorem dX5_ofBlock_9 : decode cX5_ofBlock 9 = .ok (.ishl, 1) := by decide +kernel
theorem dX5_ofBlock_10 : decode cX5_ofBlock 10 = .ok (.ior, 1) := by decide +kernel
theorem dX5_ofBlock_11 : decode cX5_ofBlock 11 = .ok (.istore_n 2, 1) := by decide +kernel
theorem dX5_ofBlock_12 : decode cX5_ofBlock 12 = .ok (.iconst 3, 1) := by decide +kernel
theorem dX5_ofBlock_13 : decode cX5_ofBlock 13 = .ok (.iload_n 2, 1) := by decide +kernel
theorem dX5_ofBlock_14 : decode cX5_ofBlock 14 = .ok (.iconst 3, 1) := by decide +kernel
theorem dX5_ofBlock_15 : decode cX5_ofBlock 15 = .ok (.ishl, 1) := by decide +kernel
theorem dX5_ofBlock_16 : decode cX5_ofBlock 16 = .ok (.ior, 1) := by decide +kernel
theorem dX5_ofBlock_17 : decode cX5_ofBlock 17 = .ok (.istore_n 3, 1) := by decide +kernel
theorem dX5_ofBlock_18 : decode cX5_ofBlock 18 = .ok (.iconst 0, 1) := by decide +kernel
theorem dX5_ofBlock_19 : decode cX5_ofBlock 19 = .ok (.istore 4, 2) := by decide +kernel
theorem dX5_ofBlock_21 : decode cX5_ofBlock 21 = .ok (.iload 4, 2) := by decide +kernel
theorem dX5_ofBlock_23 : decode cX5_ofBlock 23 = .ok (.iconst 1, 1) := by decide +kernel
theorem dX5_ofBlock_24 : decode cX5_ofBlock 24 = .ok (.if_icmp .gt 37, 3) := by decide +kernel
theorem dX5_ofBlock_27 : decode cX5_ofBlock 27 = .ok (.iload_n 3, 1) := by decide +kernel
theorem dX5_ofBlock_28 : decode cX5_ofBlock 28 = .ok (.iload 4, 2) := by decide +kernel
theorem dX5_ofBlock_30 : decode cX5_ofBlock 30 = .ok (.iload_n 0, 1) := by decide +kernel
theorem dX5_ofBlock_31 : decode cX5_ofBlock 31 = .ok (.iload 4, 2) := by decide +kernel
theorem dX5_ofBlock_33 : decode cX5_ofBlock 33 = .ok (.invokestatic 19, 3) := by decide +kernel
theorem dX5_ofBlock_36 : decode cX5_ofBlock 36 = .ok (.invokestatic 11, 3) := by decide +kernel
theorem dX5_ofBlock_39 : decode cX5_ofBlock 39 = .ok (.istore_n 3, 1) := by decide +kernel
theorem dX5_ofBlock_40 : decode cX5_ofBlock 40 = .ok (.iload_n 3, 1) := by decide +kernel
theorem dX5_ofBlock_41 : decode cX5_ofBlock 41 = .ok (.iload 4, 2) := by decide +kernel
theorem dX5_ofBlock_43 : decode cX5_ofBlock 43 = .ok (.iconst 2, 1) := by decide +kernel
theorem dX5_ofBlock_44 : decode cX5_ofBlock 44 = .ok (.iadd, 1) := by decide +kernel
theorem dX5_ofBlock_45 : decode cX5_ofBlock 45 = .ok (.iload_n 1, 1) := by decide +kernel
theorem dX5_ofBlock_46 : decode cX5_ofBlock 46 = .ok (.iload 4, 2) := by decide +kernel
theorem dX5_ofBlock_48 : decode cX5_ofBlock 48 = .ok (.invokestatic 19, 3) := by decide +kernel
theorem dX5_ofBlock_51 : decode cX5_ofBlock 51 = .ok (.invokestatic 11, 3) := by decide +kernel
theorem dX5_ofBlock_54 : decode cX5_ofBlock 54 = .ok (.istore_n 3, 1) := by decide +kernel
theorem dX5_ofBlock_55 : decode cX5_ofBlock 55 = .ok (.iinc 4 1, 3) := by decide +kernel
theorem dX5_ofBlock_58 : decode cX5_ofBlock 58 = .ok (.goto (-37), 3) := by decide +kernel
theorem dX5_ofBlock_61 : decode cX5_ofBlock 61 = .ok (.iload_n 3, 1) := by decide +kernel
theorem dX5_ofBlock_62 : decode cX5_ofBlock 62 = .ok (.invokestatic 23, 3) := by decide +kernel
theorem dX5_ofBlock_65 : decode cX5_ofBlock 65 = .ok (.ireturn, 1) := by decide +kernel
theorem dX5_kind_0 : decode cX5_kind 0 = .ok (.iload_n 0, 1) := by decide +kernel
theorem dX5_kind_1 : decode cX5_kind 1 = .ok (.bipush 7, 2) := by decide +kernel
theorem dX5_kind_3 : decode cX5_kind 3 = .ok (.iand, 1) := by decide +kernel
theorem dX5_kind_4 : decode cX5_kind 4 = .ok (.ireturn, 1) := by decide +kernel
theorem dX5_fixed_0 : decode cX5_fixed 0 = .ok (.iload_n 0, 1) := by decide +kernel
theorem dX5_fixed_1 : decode cX5_fixed 1 = .ok (.iconst 3, 1) := by decide +kernel
theorem dX5_fixed_2 : decode cX5_fixed 2 = .ok (.ishr, 1) := by decide +kernel
theorem dX5_fixed_3 : decode cX5_fixed 3 = .ok (.bipush 15, 2) := by decide +kernel
theorem dX5_fixed_5 : decode cX5_fixed 5 = .ok (.iand, 1) := by decide +kernel
theorem dX5_fixed_6 : decode cX5_fixed 6 = .ok (.ireturn, 1) := by decide +kernel
theorem dX5_number_0 : decode cX5_number 0 = .ok (.iload_n 0, 1) := by decide +kernel
theorem dX5_number_1 : decode cX5_number 1 = .ok (.bipush 7, 2) := by decide +kernel
theorem dX5_number_3 : decode cX5_number 3 = .ok (.ishr, 1) := by decide +kernel
theorem dX5_number_4 : decode cX5_number 4 = .ok (.ireturn, 1) := by decide +kernel
theorem dX5_coordinate_0 : decode cX5_coordinate 0 = .ok (.iload_n 0, 1) := by decide +kernel
theorem dX5_coordinate_1 : decode cX5_coordinate 1 = .ok (.bipush 7, 2) := by decide +kernel
theorem dX5_coordinate_3 : decode cX5_coordinate 3 = .ok (.iconst 3, 1) := by decide +kernel
theorem dX5_coordinate_4 : decode cX5_coordinate 4 = .ok (.iload_n 1, 1) := by decide +kernel
theorem dX5_coordinate_5 : decode cX5_coordinate 5 = .ok (.imul, 1) := by decide +kernel
theorem dX5_coordinate_6 : decode cX5_coordinate 6 = .ok (.iadd, 1) := by decide +kernel
theorem dX5_coordinate_7 : decode cX5_coordinate 7 = .ok (.ishr, 1) := by decide +kernel
theorem dX5_coordinate_8 : decode cX5_coordinate 8 = .ok (.bipush 7, 2) := by decide +kernel
theorem dX5_coordinate_10 : decode cX5_coordinate 10 = .ok (.iand, 1) := by decide +kernel
theorem dX5_coordinate_11 : decode cX5_coordinate 11 = .ok (.ireturn, 1) := by decide +kernel
theorem dX5_refers_0 : decode cX5_refers 0 = .ok (.iload_n 0, 1) := by decide +kernel
theorem dX5_refers_1 : decode cX5_refers 1 = .ok (.invokestatic 26, 3) := by decide +kernel
theorem dX5_refers_4 : decode cX5_refers 4 = .ok (.iconst 2, 1) := by decide +kernel
theorem dX5_refers_5 : decode cX5_refers 5 = .ok (.if_icmp .eq 11, 3) := by decide +kernel
theorem dX5_refers_8 : decode cX5_refers 8 = .ok (.iload_n 0, 1) := by decide +kernel
theorem dX5_refers_9 : decode cX5_refers 9 = .ok (.invokestatic 26, 3) := by decide +kernel
theorem dX5_refers_12 : decode cX5_refers 12 = .ok (.iconst 3, 1) := by decide +kernel
theorem dX5_refers_13 : decode cX5_refers 13 = .ok (.if_icmp .ne 7, 3) := by decide +kernel
theorem dX5_refers_16 : decode cX5_refers 16 = .ok (.iconst 1, 1) := by decide +kernel
theorem dX5_refers_17 : decode cX5_refers 17 = .ok (.goto 4, 3) := by decide +kernel
theorem dX5_refers_20 : decode cX5_refers 20 = .ok (.iconst 0, 1) := by decide +kernel
theorem dX5_refers_21 : decode cX5_refers 21 = .ok (.ireturn, 1) := by decide +kernel
theorem dX5_least_0 : decode cX5_least 0 = .ok (.iload_n 0, 1) := by decide +kernel
theorem dX5_least_1 : decode cX5_least 1 = .ok (.iload_n 1, 1) := by decide +kernel
theorem dX5_least_2 : decode cX5_least 2 = .ok (.invokestatic 19, 3) := by decide +kernel
theorem dX5_least_5 : decode cX5_least 5 = .ok (.ireturn, 1) := by decide +kernel
theorem dX5_greatest_0 : decode cX5_greatest 0 = .ok (.iload_n 0, 1) := by decide +kernel
theorem dX5_greatest_1 : decode cX5_greatest 1 = .ok (.iload_n 0, 1) := by decide +kernel
theorem dX5_greatest_2 : decode cX5_greatest 2 = .ok (.invokestatic 26, 3) := by decide +kernel
theorem dX5_greatest_5 : decode cX5_greatest 5 = .ok (.iconst 3, 1) := by decide +kernel
theorem dX5_greatest_6 : decode cX5_greatest 6 = .ok (.if_icmp .ne 9, 3) := by decide +kernel
theorem dX5_greatest_9 : decode cX5_greatest 9 = .ok (.iload_n 1, 1) := by decide +kernel
theorem dX5_greatest_10 : decode cX5_greatest 10 = .ok (.iconst 2, 1) := by decide +kernel
theorem dX5_greatest_11 : decode cX5_greatest 11 = .ok (.iadd, 1) := by decide +kernel
theorem dX5_greatest_12 : decode cX5_greatest 12 = .ok (.goto 4, 3) := by decide +kernel
theorem dX5_greatest_15 : decode cX5_greatest 15 = .ok (.iload_n 1, 1) := by decide +kernel
theorem dX5_greatest_16 : decode cX5_greatest 16 = .ok (.invokestatic 19, 3) := by decide +kernel
theorem dX5_greatest_19 : decode cX5_greatest 19 = .ok (.ireturn, 1) := by decide +kernel
theorem dX5_whenLinesCome_0 : decode cX5_whenLinesCome 0 = .ok (.iload_n 0, 1) := by decide +kernel
theorem dX5_whenLinesCome_1 : decode cX5_whenLinesCome 1 = .ok (.invokestatic 29, 3) := by decide +kernel
theorem dX5_whenLinesCome_4 : decode cX5_whenLinesCome 4 = .ok (.ifCond .eq 12, 3) := by decide +kernel
theorem dX5_whenLinesCome_7 : decode cX5_whenLinesCome 7 = .ok (.iload_n 0, 1) := by decide +kernel
theorem dX5_whenLinesCome_8 : decode cX5_whenLinesCome 8 = .ok (.iload_n 1, 1) := by decide +kernel
theorem dX5_whenLinesCome_9 : decode cX5_whenLinesCome 9 = .ok (.invokestatic 33, 3) := by decide +kernel
theorem dX5_whenLinesCome_12 : decode cX5_whenLinesCome 12 = .ok (.iload_n 2, 1) := by decide +kernel
theorem dX5_whenLinesCome_13 : decode cX5_whenLinesCome 13 = .ok (.if_icmp .ge 5, 3) := by decide +kernel
theorem dX5_whenLinesCome_16 : decode cX5_whenLinesCome 16 = .ok (.iload_n 0, 1) := by decide +kernel
theorem dX5_whenLinesCome_17 : decode cX5_whenLinesCome 17 = .ok (.ireturn, 1) := by decide +kernel
theorem dX5_whenLinesCome_18 : decode cX5_whenLinesCome 18 = .ok (.iload_n 0, 1) := by decide +kernel
theorem dX5_whenLinesCome_19 : decode cX5_whenLinesCome 19 = .ok (.iload_n 1, 1) := by decide +kernel
theorem dX5_whenLinesCome_20 : decode cX5_whenLinesCome 20 = .ok (.invokestatic 36, 3) := by decide +kernel
theorem dX5_whenLinesCome_23 : decode cX5_whenLinesCome 23 = .ok (.istore 4, 2) := by decide +kernel
theorem dX5_whenLinesCome_25 : decode cX5_whenLinesCome 25 = .ok (.iload 4, 2) := by decide +kernel
theorem dX5_whenLinesCome_27 : decode cX5_whenLinesCome 27 = .ok (.iload_n 2, 1) := by decide +kernel
theorem dX5_whenLinesCome_28 : decode cX5_whenLinesCome 28 = .ok (.if_icmp .ge 8, 3) := by decide +kernel
theorem dX5_whenLinesCome_31 : decode cX5_whenLinesCome 31 = .ok (.iload 4, 2) := by decide +kernel
theorem dX5_whenLinesCome_33 : decode cX5_whenLinesCome 33 = .ok (.goto 7, 3) := by decide +kernel
theorem dX5_whenLinesCome_36 : decode cX5_whenLinesCome 36 = .ok (.iload 4, 2) := by decide +kernel
theorem dX5_whenLinesCome_38 : decode cX5_whenLinesCome 38 = .ok (.iload_n 3, 1) := by decide +kernel
theorem dX5_whenLinesCome_39 : decode cX5_whenLinesCome 39 = .ok (.iadd, 1) := by decide +kernel
theorem dX5_whenLinesCome_40 : decode cX5_whenLinesCome 40 = .ok (.istore 5, 2) := by decide +kernel
theorem dX5_whenLinesCome_42 : decode cX5_whenLinesCome 42 = .ok (.iload 5, 2) := by decide +kernel
theorem dX5_whenLinesCome_44 : decode cX5_whenLinesCome 44 = .ok (.bipush 6, 2) := by decide +kernel
theorem dX5_whenLinesCome_46 : decode cX5_whenLinesCome 46 = .ok (.if_icmp .lt 5, 3) := by decide +kernel
theorem dX5_whenLinesCome_49 : decode cX5_whenLinesCome 49 = .ok (.iconst 4, 1) := by decide +kernel
theorem dX5_whenLinesCome_50 : decode cX5_whenLinesCome 50 = .ok (.ireturn, 1) := by decide +kernel
theorem dX5_whenLinesCome_51 : decode cX5_whenLinesCome 51 = .ok (.iload_n 0, 1) := by decide +kernel
theorem dX5_whenLinesCome_52 : decode cX5_whenLinesCome 52 = .ok (.iload_n 1, 1) := by decide +kernel
theorem dX5_whenLinesCome_53 : decode cX5_whenLinesCome 53 = .ok (.iload 5, 2) := by decide +kernel
theorem dX5_whenLinesCome_55 : decode cX5_whenLinesCome 55 = .ok (.invokestatic 11, 3) := by decide +kernel
theorem dX5_whenLinesCome_58 : decode cX5_whenLinesCome 58 = .ok (.istore 6, 2) := by decide +kernel
theorem dX5_whenLinesCome_60 : decode cX5_whenLinesCome 60 = .ok (.iload_n 0, 1) := by decide +kernel
theorem dX5_whenLinesCome_61 : decode cX5_whenLinesCome 61 = .ok (.invokestatic 26, 3) := by decide +kernel
theorem dX5_whenLinesCome_64 : decode cX5_whenLinesCome 64 = .ok (.iconst 2, 1) := by decide +kernel
theorem dX5_whenLinesCome_65 : decode cX5_whenLinesCome 65 = .ok (.if_icmp .ne 6, 3) := by decide +kernel
theorem dX5_whenLinesCome_68 : decode cX5_whenLinesCome 68 = .ok (.iload 6, 2) := by decide +kernel
theorem dX5_whenLinesCome_70 : decode cX5_whenLinesCome 70 = .ok (.ireturn, 1) := by decide +kernel
theorem dX5_whenLinesCome_71 : decode cX5_whenLinesCome 71 = .ok (.iload 6, 2) := by decide +kernel
theorem dX5_whenLinesCome_73 : decode cX5_whenLinesCome 73 = .ok (.iload_n 1, 1) := by decide +kernel
theorem dX5_whenLinesCome_74 : decode cX5_whenLinesCome 74 = .ok (.iconst 2, 1) := by decide +kernel
theorem dX5_whenLinesCome_75 : decode cX5_whenLinesCome 75 = .ok (.iadd, 1) := by decide +kernel
theorem dX5_whenLinesCome_76 : decode cX5_whenLinesCome 76 = .ok (.iload_n 0, 1) := by decide +kernel
theorem dX5_whenLinesCome_77 : decode cX5_whenLinesCome 77 = .ok (.iload_n 1, 1) := by decide +kernel
theorem dX5_whenLinesCome_78 : decode cX5_whenLinesCome 78 = .ok (.invokestatic 33, 3) := by decide +kernel
theorem dX5_whenLinesCome_81 : decode cX5_whenLinesCome 81 = .ok (.iload_n 3, 1) := by decide +kernel
theorem dX5_whenLinesCome_82 : decode cX5_whenLinesCome 82 = .ok (.iadd, 1) := by decide +kernel
theorem dX5_whenLinesCome_83 : decode cX5_whenLinesCome 83 = .ok (.iconst 5, 1) := by decide +kernel
theorem dX5_whenLinesCome_84 : decode cX5_whenLinesCome 84 = .ok (.invokestatic 39, 3) := by decide +kernel
theorem dX5_whenLinesCome_87 : decode cX5_whenLinesCome 87 = .ok (.invokestatic 11, 3) := by decide +kernel
theorem dX5_whenLinesCome_90 : decode cX5_whenLinesCome 90 = .ok (.ireturn, 1) := by decide +kernel
theorem dX5_whenLinesGo_0 : decode cX5_whenLinesGo 0 = .ok (.iload_n 0, 1) := by decide +kernel
theorem dX5_whenLinesGo_1 : decode cX5_whenLinesGo 1 = .ok (.invokestatic 29, 3) := by decide +kernel
theorem dX5_whenLinesGo_4 : decode cX5_whenLinesGo 4 = .ok (.ifCond .eq 12, 3) := by decide +kernel
theorem dX5_whenLinesGo_7 : decode cX5_whenLinesGo 7 = .ok (.iload_n 0, 1) := by decide +kernel
theorem dX5_whenLinesGo_8 : decode cX5_whenLinesGo 8 = .ok (.iload_n 1, 1) := by decide +kernel
theorem dX5_whenLinesGo_9 : decode cX5_whenLinesGo 9 = .ok (.invokestatic 33, 3) := by decide +kernel
theorem dX5_whenLinesGo_12 : decode cX5_whenLinesGo 12 = .ok (.iload_n 2, 1) := by decide +kernel
theorem dX5_whenLinesGo_13 : decode cX5_whenLinesGo 13 = .ok (.if_icmp .ge 5, 3) := by decide +kernel
theorem dX5_whenLinesGo_16 : decode cX5_whenLinesGo 16 = .ok (.iload_n 0, 1) := by decide +kernel
theorem dX5_whenLinesGo_17 : decode cX5_whenLinesGo 17 = .ok (.ireturn, 1) := by decide +kernel
theorem dX5_whenLinesGo_18 : decode cX5_whenLinesGo 18 = .ok (.iload_n 0, 1) := by decide +kernel
theorem dX5_whenLinesGo_19 : decode cX5_whenLinesGo 19 = .ok (.iload_n 1, 1) := by decide +kernel
theorem dX5_whenLinesGo_20 : decode cX5_whenLinesGo 20 = .ok (.invokestatic 36, 3) := by decide +kernel
theorem dX5_whenLinesGo_23 : decode cX5_whenLinesGo 23 = .ok (.istore 4, 2) := by decide +kernel
theorem dX5_whenLinesGo_25 : decode cX5_whenLinesGo 25 = .ok (.iload_n 0, 1) := by decide +kernel
theorem dX5_whenLinesGo_26 : decode cX5_whenLinesGo 26 = .ok (.iload_n 1, 1) := by decide +kernel
theorem dX5_whenLinesGo_27 : decode cX5_whenLinesGo 27 = .ok (.invokestatic 33, 3) := by decide +kernel
theorem dX5_whenLinesGo_30 : decode cX5_whenLinesGo 30 = .ok (.istore 5, 2) := by decide +kernel
theorem dX5_whenLinesGo_32 : decode cX5_whenLinesGo 32 = .ok (.iload 4, 2) := by decide +kernel
theorem dX5_whenLinesGo_34 : decode cX5_whenLinesGo 34 = .ok (.iload_n 2, 1) := by decide +kernel
theorem dX5_whenLinesGo_35 : decode cX5_whenLinesGo 35 = .ok (.if_icmp .ge 8, 3) := by decide +kernel
theorem dX5_whenLinesGo_38 : decode cX5_whenLinesGo 38 = .ok (.iload 4, 2) := by decide +kernel
theorem dX5_whenLinesGo_40 : decode cX5_whenLinesGo 40 = .ok (.goto 11, 3) := by decide +kernel
theorem dX5_whenLinesGo_43 : decode cX5_whenLinesGo 43 = .ok (.iload 4, 2) := by decide +kernel
theorem dX5_whenLinesGo_45 : decode cX5_whenLinesGo 45 = .ok (.iload_n 3, 1) := by decide +kernel
theorem dX5_whenLinesGo_46 : decode cX5_whenLinesGo 46 = .ok (.isub, 1) := by decide +kernel
theorem dX5_whenLinesGo_47 : decode cX5_whenLinesGo 47 = .ok (.iload_n 2, 1) := by decide +kernel
theorem dX5_whenLinesGo_48 : decode cX5_whenLinesGo 48 = .ok (.invokestatic 44, 3) := by decide +kernel
theorem dX5_whenLinesGo_51 : decode cX5_whenLinesGo 51 = .ok (.istore 6, 2) := by decide +kernel
theorem dX5_whenLinesGo_53 : decode cX5_whenLinesGo 53 = .ok (.iload 5, 2) := by decide +kernel
theorem dX5_whenLinesGo_55 : decode cX5_whenLinesGo 55 = .ok (.iload_n 3, 1) := by decide +kernel
theorem dX5_whenLinesGo_56 : decode cX5_whenLinesGo 56 = .ok (.isub, 1) := by decide +kernel
theorem dX5_whenLinesGo_57 : decode cX5_whenLinesGo 57 = .ok (.iload_n 2, 1) := by decide +kernel
theorem dX5_whenLinesGo_58 : decode cX5_whenLinesGo 58 = .ok (.iconst 1, 1) := by decide +kernel
theorem dX5_whenLinesGo_59 : decode cX5_whenLinesGo 59 = .ok (.isub, 1) := by decide +kernel
theorem dX5_whenLinesGo_60 : decode cX5_whenLinesGo 60 = .ok (.invokestatic 44, 3) := by decide +kernel
theorem dX5_whenLinesGo_63 : decode cX5_whenLinesGo 63 = .ok (.istore 7, 2) := by decide +kernel
theorem dX5_whenLinesGo_65 : decode cX5_whenLinesGo 65 = .ok (.iload 7, 2) := by decide +kernel
theorem dX5_whenLinesGo_67 : decode cX5_whenLinesGo 67 = .ok (.iload 6, 2) := by decide +kernel
theorem dX5_whenLinesGo_69 : decode cX5_whenLinesGo 69 = .ok (.if_icmp .ge 5, 3) := by decide +kernel
theorem dX5_whenLinesGo_72 : decode cX5_whenLinesGo 72 = .ok (.iconst 4, 1) := by decide +kernel
theorem dX5_whenLinesGo_73 : decode cX5_whenLinesGo 73 = .ok (.ireturn, 1) := by decide +kernel
theorem dX5_whenLinesGo_74 : decode cX5_whenLinesGo 74 = .ok (.iload_n 0, 1) := by decide +kernel
theorem dX5_whenLinesGo_75 : decode cX5_whenLinesGo 75 = .ok (.iload_n 1, 1) := by decide +kernel
theorem dX5_whenLinesGo_76 : decode cX5_whenLinesGo 76 = .ok (.iload 6, 2) := by decide +kernel
theorem dX5_whenLinesGo_78 : decode cX5_whenLinesGo 78 = .ok (.invokestatic 11, 3) := by decide +kernel
theorem dX5_whenLinesGo_81 : decode cX5_whenLinesGo 81 = .ok (.istore 8, 2) := by decide +kernel
theorem dX5_whenLinesGo_83 : decode cX5_whenLinesGo 83 = .ok (.iload_n 0, 1) := by decide +kernel
theorem dX5_whenLinesGo_84 : decode cX5_whenLinesGo 84 = .ok (.invokestatic 26, 3) := by decide +kernel
theorem dX5_whenLinesGo_87 : decode cX5_whenLinesGo 87 = .ok (.iconst 2, 1) := by decide +kernel
theorem dX5_whenLinesGo_88 : decode cX5_whenLinesGo 88 = .ok (.if_icmp .ne 8, 3) := by decide +kernel
theorem dX5_whenLinesGo_91 : decode cX5_whenLinesGo 91 = .ok (.iload 8, 2) := by decide +kernel
theorem dX5_whenLinesGo_93 : decode cX5_whenLinesGo 93 = .ok (.goto 13, 3) := by decide +kernel
theorem dX5_whenLinesGo_96 : decode cX5_whenLinesGo 96 = .ok (.iload 8, 2) := by decide +kernel
theorem dX5_whenLinesGo_98 : decode cX5_whenLinesGo 98 = .ok (.iload_n 1, 1) := by decide +kernel
theorem dX5_whenLinesGo_99 : decode cX5_whenLinesGo 99 = .ok (.iconst 2, 1) := by decide +kernel
theorem dX5_whenLinesGo_100 : decode cX5_whenLinesGo 100 = .ok (.iadd, 1) := by decide +kernel
theorem dX5_whenLinesGo_101 : decode cX5_whenLinesGo 101 = .ok (.iload 7, 2) := by decide +kernel
theorem dX5_whenLinesGo_103 : decode cX5_whenLinesGo 103 = .ok (.invokestatic 11, 3) := by decide +kernel
theorem dX5_whenLinesGo_106 : decode cX5_whenLinesGo 106 = .ok (.ireturn, 1) := by decide +kernel
theorem dX5_further_0 : decode cX5_further 0 = .ok (.iload_n 0, 1) := by decide +kernel
theorem dX5_further_1 : decode cX5_further 1 = .ok (.invokestatic 29, 3) := by decide +kernel
theorem dX5_further_4 : decode cX5_further 4 = .ok (.ifCond .ne 5, 3) := by decide +kernel
theorem dX5_further_7 : decode cX5_further 7 = .ok (.iload_n 0, 1) := by decide +kernel
theorem dX5_further_8 : decode cX5_further 8 = .ok (.ireturn, 1) := by decide +kernel
theorem dX5_further_9 : decode cX5_further 9 = .ok (.iload_n 0, 1) := by decide +kernel
theorem dX5_further_10 : decode cX5_further 10 = .ok (.invokestatic 26, 3) := by decide +kernel
theorem dX5_further_13 : decode cX5_further 13 = .ok (.iconst 3, 1) := by decide +kernel
theorem dX5_further_14 : decode cX5_further 14 = .ok (.if_icmp .ne 7, 3) := by decide +kernel
theorem dX5_further_17 : decode cX5_further 17 = .ok (.iconst 4, 1) := by decide +kernel
theorem dX5_further_18 : decode cX5_further 18 = .ok (.goto 4, 3) := by decide +kernel
theorem dX5_further_21 : decode cX5_further 21 = .ok (.iconst 2, 1) := by decide +kernel
theorem dX5_further_22 : decode cX5_further 22 = .ok (.istore 4, 2) := by decide +kernel
theorem dX5_further_24 : decode cX5_further 24 = .ok (.iload_n 0, 1) := by decide +kernel
theorem dX5_further_25 : decode cX5_further 25 = .ok (.istore 5, 2) := by decide +kernel
theorem dX5_further_27 : decode cX5_further 27 = .ok (.iconst 0, 1) := by decide +kernel
theorem dX5_further_28 : decode cX5_further 28 = .ok (.istore 6, 2) := by decide +kernel
theorem dX5_further_30 : decode cX5_further 30 = .ok (.iload 6, 2) := by decide +kernel
theorem dX5_further_32 : decode cX5_further 32 = .ok (.iload 4, 2) := by decide +kernel
theorem dX5_further_34 : decode cX5_further 34 = .ok (.if_icmp .ge 83, 3) := by decide +kernel
theorem dX5_further_37 : decode cX5_further 37 = .ok (.iload_n 3, 1) := by decide +kernel
theorem dX5_further_38 : decode cX5_further 38 = .ok (.iload 6, 2) := by decide +kernel
theorem dX5_further_40 : decode cX5_further 40 = .ok (.ishr, 1) := by decide +kernel
theorem dX5_further_41 : decode cX5_further 41 = .ok (.iconst 1, 1) := by decide +kernel
theorem dX5_further_42 : decode cX5_further 42 = .ok (.iand, 1) := by decide +kernel
theorem dX5_further_43 : decode cX5_further 43 = .ok (.iconst 1, 1) := by decide +kernel
theorem dX5_further_44 : decode cX5_further 44 = .ok (.if_icmp .ne 7, 3) := by decide +kernel
theorem dX5_further_47 : decode cX5_further 47 = .ok (.iconst 1, 1) := by decide +kernel
theorem dX5_further_48 : decode cX5_further 48 = .ok (.goto 4, 3) := by decide +kernel
theorem dX5_further_51 : decode cX5_further 51 = .ok (.iconst 0, 1) := by decide +kernel
theorem dX5_further_52 : decode cX5_further 52 = .ok (.istore 7, 2) := by decide +kernel
theorem dX5_further_54 : decode cX5_further 54 = .ok (.iload 6, 2) := by decide +kernel
theorem dX5_further_56 : decode cX5_further 56 = .ok (.iconst 2, 1) := by decide +kernel
theorem dX5_further_57 : decode cX5_further 57 = .ok (.irem, 1) := by decide +kernel
theorem dX5_further_58 : decode cX5_further 58 = .ok (.ifCond .ne 7, 3) := by decide +kernel
theorem dX5_further_61 : decode cX5_further 61 = .ok (.iload_n 1, 1) := by decide +kernel
theorem dX5_further_62 : decode cX5_further 62 = .ok (.goto 4, 3) := by decide +kernel
theorem dX5_further_65 : decode cX5_further 65 = .ok (.iload_n 2, 1) := by decide +kernel
theorem dX5_further_66 : decode cX5_further 66 = .ok (.istore 8, 2) := by decide +kernel
theorem dX5_further_68 : decode cX5_further 68 = .ok (.iload_n 0, 1) := by decide +kernel
theorem dX5_further_69 : decode cX5_further 69 = .ok (.iload 6, 2) := by decide +kernel
theorem dX5_further_71 : decode cX5_further 71 = .ok (.invokestatic 19, 3) := by decide +kernel
theorem dX5_further_74 : decode cX5_further 74 = .ok (.iload 7, 2) := by decide +kernel
theorem dX5_further_76 : decode cX5_further 76 = .ok (.ifCond .eq 7, 3) := by decide +kernel
theorem dX5_further_79 : decode cX5_further 79 = .ok (.iconst 0, 1) := by decide +kernel
theorem dX5_further_80 : decode cX5_further 80 = .ok (.goto 5, 3) := by decide +kernel
theorem dX5_further_83 : decode cX5_further 83 = .ok (.iload 8, 2) := by decide +kernel
theorem dX5_further_85 : decode cX5_further 85 = .ok (.iadd, 1) := by decide +kernel
theorem dX5_further_86 : decode cX5_further 86 = .ok (.istore 9, 2) := by decide +kernel
theorem dX5_further_88 : decode cX5_further 88 = .ok (.iload 9, 2) := by decide +kernel
theorem dX5_further_90 : decode cX5_further 90 = .ok (.iconst 0, 1) := by decide +kernel
theorem dX5_further_91 : decode cX5_further 91 = .ok (.iconst 5, 1) := by decide +kernel
theorem dX5_further_92 : decode cX5_further 92 = .ok (.invokestatic 47, 3) := by decide +kernel
theorem dX5_further_95 : decode cX5_further 95 = .ok (.ifCond .ne 5, 3) := by decide +kernel
theorem dX5_further_98 : decode cX5_further 98 = .ok (.iconst 4, 1) := by decide +kernel
theorem dX5_further_99 : decode cX5_further 99 = .ok (.ireturn, 1) := by decide +kernel
theorem dX5_further_100 : decode cX5_further 100 = .ok (.iload 5, 2) := by decide +kernel
theorem dX5_further_102 : decode cX5_further 102 = .ok (.iload 6, 2) := by decide +kernel
theorem dX5_further_104 : decode cX5_further 104 = .ok (.iload 9, 2) := by decide +kernel
theorem dX5_further_106 : decode cX5_further 106 = .ok (.invokestatic 11, 3) := by decide +kernel
theorem dX5_further_109 : decode cX5_further 109 = .ok (.istore 5, 2) := by decide +kernel
theorem dX5_further_111 : decode cX5_further 111 = .ok (.iinc 6 1, 3) := by decide +kernel
theorem dX5_further_114 : decode cX5_further 114 = .ok (.goto (-84), 3) := by decide +kernel
theorem dX5_further_117 : decode cX5_further 117 = .ok (.iload_n 0, 1) := by decide +kernel
theorem dX5_further_118 : decode cX5_further 118 = .ok (.invokestatic 26, 3) := by decide +kernel
theorem dX5_further_121 : decode cX5_further 121 = .ok (.iconst 3, 1) := by decide +kernel
theorem dX5_further_122 : decode cX5_further 122 = .ok (.if_icmp .ne 11, 3) := by decide +kernel
theorem dX5_further_125 : decode cX5_further 125 = .ok (.iload 5, 2) := by decide +kernel
theorem dX5_further_127 : decode cX5_further 127 = .ok (.invokestatic 23, 3) := by decide +kernel
theorem dX5_further_130 : decode cX5_further 130 = .ok (.goto 5, 3) := by decide +kernel
theorem dX5_further_133 : decode cX5_further 133 = .ok (.iload 5, 2) := by decide +kernel
theorem dX5_further_135 : decode cX5_further 135 = .ok (.ireturn, 1) := by decide +kernel
theorem dX5_ordered_0 : decode cX5_ordered 0 = .ok (.iload_n 0, 1) := by decide +kernel
theorem dX5_ordered_1 : decode cX5_ordered 1 = .ok (.istore_n 1, 1) := by decide +kernel
theorem dX5_ordered_2 : decode cX5_ordered 2 = .ok (.iconst 0, 1) := by decide +kernel
theorem dX5_ordered_3 : decode cX5_ordered 3 = .ok (.istore_n 2, 1) := by decide +kernel
theorem dX5_ordered_4 : decode cX5_ordered 4 = .ok (.iload_n 2, 1) := by decide +kernel
theorem dX5_ordered_5 : decode cX5_ordered 5 = .ok (.iconst 1, 1) := by decide +kernel
theorem dX5_ordered_6 : decode cX5_ordered 6 = .ok (.if_icmp .gt 30, 3) := by decide +kernel
theorem dX5_ordered_9 : decode cX5_ordered 9 = .ok (.iload_n 1, 1) := by decide +kernel
theorem dX5_ordered_10 : decode cX5_ordered 10 = .ok (.iload_n 2, 1) := by decide +kernel
theorem dX5_ordered_11 : decode cX5_ordered 11 = .ok (.invokestatic 19, 3) := by decide +kernel
theorem dX5_ordered_14 : decode cX5_ordered 14 = .ok (.iload_n 1, 1) := by decide +kernel
theorem dX5_ordered_15 : decode cX5_ordered 15 = .ok (.iload_n 2, 1) := by decide +kernel
theorem dX5_ordered_16 : decode cX5_ordered 16 = .ok (.iconst 2, 1) := by decide +kernel
theorem dX5_ordered_17 : decode cX5_ordered 17 = .ok (.iadd, 1) := by decide +kernel
theorem dX5_ordered_18 : decode cX5_ordered 18 = .ok (.invokestatic 19, 3) := by decide +kernel
theorem dX5_ordered_21 : decode cX5_ordered 21 = .ok (.if_icmp .le 9, 3) := by decide +kernel
theorem dX5_ordered_24 : decode cX5_ordered 24 = .ok (.iload_n 1, 1) := by decide +kernel
theorem dX5_ordered_25 : decode cX5_ordered 25 = .ok (.iload_n 2, 1) := by decide +kernel
theorem dX5_ordered_26 : decode cX5_ordered 26 = .ok (.invokestatic 51, 3) := by decide +kernel
theorem dX5_ordered_29 : decode cX5_ordered 29 = .ok (.istore_n 1, 1) := by decide +kernel
theorem dX5_ordered_30 : decode cX5_ordered 30 = .ok (.iinc 2 1, 3) := by decide +kernel
theorem dX5_ordered_33 : decode cX5_ordered 33 = .ok (.goto (-29), 3) := by decide +kernel
theorem dX5_ordered_36 : decode cX5_ordered 36 = .ok (.iload_n 1, 1) := by decide +kernel
theorem dX5_ordered_37 : decode cX5_ordered 37 = .ok (.ireturn, 1) := by decide +kernel
theorem dX5_crossed_0 : decode cX5_crossed 0 = .ok (.iload_n 0, 1) := by decide +kernel
theorem dX5_crossed_1 : decode cX5_crossed 1 = .ok (.iload_n 1, 1) := by decide +kernel
theorem dX5_crossed_2 : decode cX5_crossed 2 = .ok (.invokestatic 19, 3) := by decide +kernel
theorem dX5_crossed_5 : decode cX5_crossed 5 = .ok (.istore_n 2, 1) := by decide +kernel
theorem dX5_crossed_6 : decode cX5_crossed 6 = .ok (.iload_n 0, 1) := by decide +kernel
theorem dX5_crossed_7 : decode cX5_crossed 7 = .ok (.iload_n 1, 1) := by decide +kernel
theorem dX5_crossed_8 : decode cX5_crossed 8 = .ok (.iconst 2, 1) := by decide +kernel
theorem dX5_crossed_9 : decode cX5_crossed 9 = .ok (.iadd, 1) := by decide +kernel
theorem dX5_crossed_10 : decode cX5_crossed 10 = .ok (.invokestatic 19, 3) := by decide +kernel
theorem dX5_crossed_13 : decode cX5_crossed 13 = .ok (.istore_n 3, 1) := by decide +kernel
theorem dX5_crossed_14 : decode cX5_crossed 14 = .ok (.iload_n 0, 1) := by decide +kernel
theorem dX5_crossed_15 : decode cX5_crossed 15 = .ok (.iload_n 1, 1) := by decide +kernel
theorem dX5_crossed_16 : decode cX5_crossed 16 = .ok (.iload_n 3, 1) := by decide +kernel
theorem dX5_crossed_17 : decode cX5_crossed 17 = .ok (.invokestatic 11, 3) := by decide +kernel
theorem dX5_crossed_20 : decode cX5_crossed 20 = .ok (.iload_n 1, 1) := by decide +kernel
theorem dX5_crossed_21 : decode cX5_crossed 21 = .ok (.iconst 2, 1) := by decide +kernel
theorem dX5_crossed_22 : decode cX5_crossed 22 = .ok (.iadd, 1) := by decide +kernel
theorem dX5_crossed_23 : decode cX5_crossed 23 = .ok (.iload_n 2, 1) := by decide +kernel
theorem dX5_crossed_24 : decode cX5_crossed 24 = .ok (.invokestatic 11, 3) := by decide +kernel
theorem dX5_crossed_27 : decode cX5_crossed 27 = .ok (.istore 4, 2) := by decide +kernel
theorem dX5_crossed_29 : decode cX5_crossed 29 = .ok (.iload_n 0, 1) := by decide +kernel
theorem dX5_crossed_30 : decode cX5_crossed 30 = .ok (.invokestatic 15, 3) := by decide +kernel
theorem dX5_crossed_33 : decode cX5_crossed 33 = .ok (.iload_n 1, 1) := by decide +kernel
theorem dX5_crossed_34 : decode cX5_crossed 34 = .ok (.ishr, 1) := by decide +kernel
theorem dX5_crossed_35 : decode cX5_crossed 35 = .ok (.iconst 1, 1) := by decide +kernel
theorem dX5_crossed_36 : decode cX5_crossed 36 = .ok (.iand, 1) := by decide +kernel
theorem dX5_crossed_37 : decode cX5_crossed 37 = .ok (.istore 5, 2) := by decide +kernel
theorem dX5_crossed_39 : decode cX5_crossed 39 = .ok (.iload_n 0, 1) := by decide +kernel
theorem dX5_crossed_40 : decode cX5_crossed 40 = .ok (.invokestatic 15, 3) := by decide +kernel
theorem dX5_crossed_43 : decode cX5_crossed 43 = .ok (.iload_n 1, 1) := by decide +kernel
theorem dX5_crossed_44 : decode cX5_crossed 44 = .ok (.iconst 2, 1) := by decide +kernel
theorem dX5_crossed_45 : decode cX5_crossed 45 = .ok (.iadd, 1) := by decide +kernel
theorem dX5_crossed_46 : decode cX5_crossed 46 = .ok (.ishr, 1) := by decide +kernel
theorem dX5_crossed_47 : decode cX5_crossed 47 = .ok (.iconst 1, 1) := by decide +kernel
theorem dX5_crossed_48 : decode cX5_crossed 48 = .ok (.iand, 1) := by decide +kernel
theorem dX5_crossed_49 : decode cX5_crossed 49 = .ok (.istore 6, 2) := by decide +kernel
theorem dX5_crossed_51 : decode cX5_crossed 51 = .ok (.iload 5, 2) := by decide +kernel
theorem dX5_crossed_53 : decode cX5_crossed 53 = .ok (.iload 6, 2) := by decide +kernel
theorem dX5_crossed_55 : decode cX5_crossed 55 = .ok (.if_icmp .ne 8, 3) := by decide +kernel
theorem dX5_crossed_58 : decode cX5_crossed 58 = .ok (.iload 4, 2) := by decide +kernel
theorem dX5_crossed_60 : decode cX5_crossed 60 = .ok (.goto 11, 3) := by decide +kernel
theorem dX5_crossed_63 : decode cX5_crossed 63 = .ok (.iload 4, 2) := by decide +kernel
theorem dX5_crossed_65 : decode cX5_crossed 65 = .ok (.iconst 5, 1) := by decide +kernel
theorem dX5_crossed_66 : decode cX5_crossed 66 = .ok (.iload_n 1, 1) := by decide +kernel
theorem dX5_crossed_67 : decode cX5_crossed 67 = .ok (.ishl, 1) := by decide +kernel
theorem dX5_crossed_68 : decode cX5_crossed 68 = .ok (.iconst 3, 1) := by decide +kernel
theorem dX5_crossed_69 : decode cX5_crossed 69 = .ok (.ishl, 1) := by decide +kernel
theorem dX5_crossed_70 : decode cX5_crossed 70 = .ok (.ixor, 1) := by decide +kernel
theorem dX5_crossed_71 : decode cX5_crossed 71 = .ok (.ireturn, 1) := by decide +kernel
theorem dX5_with_0 : decode cX5_with 0 = .ok (.bipush 7, 2) := by decide +kernel
theorem dX5_with_2 : decode cX5_with 2 = .ok (.iconst 3, 1) := by decide +kernel
theorem dX5_with_3 : decode cX5_with 3 = .ok (.iload_n 1, 1) := by decide +kernel
theorem dX5_with_4 : decode cX5_with 4 = .ok (.imul, 1) := by decide +kernel
theorem dX5_with_5 : decode cX5_with 5 = .ok (.iadd, 1) := by decide +kernel
theorem dX5_with_6 : decode cX5_with 6 = .ok (.istore_n 3, 1) := by decide +kernel
theorem dX5_with_7 : decode cX5_with 7 = .ok (.iload_n 0, 1) := by decide +kernel
theorem dX5_with_8 : decode cX5_with 8 = .ok (.bipush 7, 2) := by decide +kernel
theorem dX5_with_10 : decode cX5_with 10 = .ok (.iload_n 3, 1) := by decide +kernel
theorem dX5_with_11 : decode cX5_with 11 = .ok (.ishl, 1) := by decide +kernel
theorem dX5_with_12 : decode cX5_with 12 = .ok (.iconst (-1), 1) := by decide +kernel
theorem dX5_with_13 : decode cX5_with 13 = .ok (.ixor, 1) := by decide +kernel
theorem dX5_with_14 : decode cX5_with 14 = .ok (.iand, 1) := by decide +kernel
theorem dX5_with_15 : decode cX5_with 15 = .ok (.iload_n 2, 1) := by decide +kernel
theorem dX5_with_16 : decode cX5_with 16 = .ok (.iload_n 3, 1) := by decide +kernel
theorem dX5_with_17 : decode cX5_with 17 = .ok (.ishl, 1) := by decide +kernel
theorem dX5_with_18 : decode cX5_with 18 = .ok (.ior, 1) := by decide +kernel
theorem dX5_with_19 : decode cX5_with 19 = .ok (.ireturn, 1) := by decide +kernel
theorem dX6_init_0 : decode cX6_init 0 = .ok (.aload_n 0, 1) := by decide +kernel
theorem dX6_init_1 : decode cX6_init 1 = .ok (.invokespecial 1, 3) := by decide +kernel
theorem dX6_init_4 : decode cX6_init 4 = .ok (.aload_n 0, 1) := by decide +kernel
theorem dX6_init_5 : decode cX6_init 5 = .ok (.bipush 60, 2) := by decide +kernel
theorem dX6_init_7 : decode cX6_init 7 = .ok (.newarray .int, 2) := by decide +kernel
theorem dX6_init_9 : decode cX6_init 9 = .ok (.putfield 9, 3) := by decide +kernel
theorem dX6_init_12 : decode cX6_init 12 = .ok (.return_, 1) := by decide +kernel
theorem dX6_isFull_0 : decode cX6_isFull 0 = .ok (.aload_n 0, 1) := by decide +kernel
theorem dX6_isFull_1 : decode cX6_isFull 1 = .ok (.getfield 13, 3) := by decide +kernel
theorem dX6_isFull_4 : decode cX6_isFull 4 = .ok (.bipush 60, 2) := by decide +kernel
theorem dX6_isFull_6 : decode cX6_isFull 6 = .ok (.if_icmp .lt 7, 3) := by decide +kernel
theorem dX6_isFull_9 : decode cX6_isFull 9 = .ok (.iconst 1, 1) := by decide +kernel
theorem dX6_isFull_10 : decode cX6_isFull 10 = .ok (.goto 4, 3) := by decide +kernel
theorem dX6_isFull_13 : decode cX6_isFull 13 = .ok (.iconst 0, 1) := by decide +kernel
theorem dX6_isFull_14 : decode cX6_isFull 14 = .ok (.ireturn, 1) := by decide +kernel
theorem dX6_add_0 : decode cX6_add 0 = .ok (.aload_n 0, 1) := by decide +kernel
theorem dX6_add_1 : decode cX6_add 1 = .ok (.getfield 13, 3) := by decide +kernel
theorem dX6_add_4 : decode cX6_add 4 = .ok (.bipush 60, 2) := by decide +kernel
theorem dX6_add_6 : decode cX6_add 6 = .ok (.if_icmp .ge 23, 3) := by decide +kernel
theorem dX6_add_9 : decode cX6_add 9 = .ok (.aload_n 0, 1) := by decide +kernel
theorem dX6_add_10 : decode cX6_add 10 = .ok (.getfield 9, 3) := by decide +kernel
theorem dX6_add_13 : decode cX6_add 13 = .ok (.aload_n 0, 1) := by decide +kernel
theorem dX6_add_14 : decode cX6_add 14 = .ok (.getfield 13, 3) := by decide +kernel
theorem dX6_add_17 : decode cX6_add 17 = .ok (.iload_n 1, 1) := by decide +kernel
theorem dX6_add_18 : decode cX6_add 18 = .ok (.iastore, 1) := by decide +kernel
theorem dX6_add_19 : decode cX6_add 19 = .ok (.aload_n 0, 1) := by decide +kernel
theorem dX6_add_20 : decode cX6_add 20 = .ok (.dup, 1) := by decide +kernel
theorem dX6_add_21 : decode cX6_add 21 = .ok (.getfield 13, 3) := by decide +kernel
theorem dX6_add_24 : decode cX6_add 24 = .ok (.iconst 1, 1) := by decide +kernel
theorem dX6_add_25 : decode cX6_add 25 = .ok (.iadd, 1) := by decide +kernel
theorem dX6_add_26 : decode cX6_add 26 = .ok (.putfield 13, 3) := by decide +kernel
theorem dX6_add_29 : decode cX6_add 29 = .ok (.aload_n 0, 1) := by decide +kernel
theorem dX6_add_30 : decode cX6_add 30 = .ok (.getfield 13, 3) := by decide +kernel
theorem dX6_add_33 : decode cX6_add 33 = .ok (.ireturn, 1) := by decide +kernel
theorem dX6_drop_0 : decode cX6_drop 0 = .ok (.aload_n 0, 1) := by decide +kernel
theorem dX6_drop_1 : decode cX6_drop 1 = .ok (.getfield 13, 3) := by decide +kernel
theorem dX6_drop_4 : decode cX6_drop 4 = .ok (.istore_n 1, 1) := by decide +kernel
theorem dX6_drop_5 : decode cX6_drop 5 = .ok (.aload_n 0, 1) := by decide +kernel
theorem dX6_drop_6 : decode cX6_drop 6 = .ok (.iconst 0, 1) := by decide +kernel
theorem dX6_drop_7 : decode cX6_drop 7 = .ok (.putfield 13, 3) := by decide +kernel
theorem dX6_drop_10 : decode cX6_drop 10 = .ok (.iload_n 1, 1) := by decide +kernel
theorem dX6_drop_11 : decode cX6_drop 11 = .ok (.ireturn, 1) := by decide +kernel
theorem dX6_byteAt_0 : decode cX6_byteAt 0 = .ok (.iload_n 1, 1) := by decide +kernel
theorem dX6_byteAt_1 : decode cX6_byteAt 1 = .ok (.ifCond .lt 20, 3) := by decide +kernel
theorem dX6_byteAt_4 : decode cX6_byteAt 4 = .ok (.iload_n 1, 1) := by decide +kernel
theorem dX6_byteAt_5 : decode cX6_byteAt 5 = .ok (.aload_n 0, 1) := by decide +kernel
theorem dX6_byteAt_6 : decode cX6_byteAt 6 = .ok (.getfield 13, 3) := by decide +kernel
theorem dX6_byteAt_9 : decode cX6_byteAt 9 = .ok (.if_icmp .ge 12, 3) := by decide +kernel
theorem dX6_byteAt_12 : decode cX6_byteAt 12 = .ok (.aload_n 0, 1) := by decide +kernel
theorem dX6_byteAt_13 : decode cX6_byteAt 13 = .ok (.getfield 9, 3) := by decide +kernel
theorem dX6_byteAt_16 : decode cX6_byteAt 16 = .ok (.iload_n 1, 1) := by decide +kernel
theorem dX6_byteAt_17 : decode cX6_byteAt 17 = .ok (.iaload, 1) := by decide +kernel
theorem dX6_byteAt_18 : decode cX6_byteAt 18 = .ok (.goto 4, 3) := by decide +kernel
theorem dX6_byteAt_21 : decode cX6_byteAt 21 = .ok (.iconst (-1), 1) := by decide +kernel
theorem dX6_byteAt_22 : decode cX6_byteAt 22 = .ok (.ireturn, 1) := by decide +kernel
theorem dX7_init_0 : decode cX7_init 0 = .ok (.aload_n 0, 1) := by decide +kernel
theorem dX7_init_1 : decode cX7_init 1 = .ok (.invokespecial 3, 3) := by decide +kernel
theorem dX7_init_4 : decode cX7_init 4 = .ok (.aload_n 0, 1) := by decide +kernel
theorem dX7_init_5 : decode cX7_init 5 = .ok (.bipush 36, 2) := by decide +kernel
theorem dX7_init_7 : decode cX7_init 7 = .ok (.newarray .int, 2) := by decide +kernel
theorem dX7_init_9 : decode cX7_init 9 = .ok (.putfield 9, 3) := by decide +kernel
theorem dX7_init_12 : decode cX7_init 12 = .ok (.aload_n 0, 1) := by decide +kernel
theorem dX7_init_13 : decode cX7_init 13 = .ok (.bipush 36, 2) := by decide +kernel
theorem dX7_init_15 : decode cX7_init 15 = .ok (.newarray .int, 2) := by decide +kernel
theorem dX7_init_17 : decode cX7_init 17 = .ok (.putfield 15, 3) := by decide +kernel
theorem dX7_init_20 : decode cX7_init 20 = .ok (.aload_n 0, 1) := by decide +kernel
theorem dX7_init_21 : decode cX7_init 21 = .ok (.bipush 36, 2) := by decide +kernel
theorem dX7_init_23 : decode cX7_init 23 = .ok (.newarray .int, 2) := by decide +kernel
theorem dX7_init_25 : decode cX7_init 25 = .ok (.putfield 18, 3) := by decide +kernel
theorem dX7_init_28 : decode cX7_init 28 = .ok (.aload_n 0, 1) := by decide +kernel
theorem dX7_init_29 : decode cX7_init 29 = .ok (.bipush 36, 2) := by decide +kernel
theorem dX7_init_31 : decode cX7_init 31 = .ok (.newarray .int, 2) := by decide +kernel
theorem dX7_init_33 : decode cX7_init 33 = .ok (.putfield 21, 3) := by decide +kernel
theorem dX7_init_36 : decode cX7_init 36 = .ok (.aload_n 0, 1) := by decide +kernel
theorem dX7_init_37 : decode cX7_init 37 = .ok (.bipush 36, 2) := by decide +kernel
theorem dX7_init_39 : decode cX7_init 39 = .ok (.newarray .boolean, 2) := by decide +kernel
theorem dX7_init_41 : decode cX7_init 41 = .ok (.putfield 24, 3) := by decide +kernel
theorem dX7_init_44 : decode cX7_init 44 = .ok (.aload_n 0, 1) := by decide +kernel
theorem dX7_init_45 : decode cX7_init 45 = .ok (.aload_n 1, 1) := by decide +kernel
theorem dX7_init_46 : decode cX7_init 46 = .ok (.putfield 28, 3) := by decide +kernel
theorem dX7_init_49 : decode cX7_init 49 = .ok (.aload_n 0, 1) := by decide +kernel
theorem dX7_init_50 : decode cX7_init 50 = .ok (.getfield 9, 3) := by decide +kernel
theorem dX7_init_53 : decode cX7_init 53 = .ok (.iconst (-1), 1) := by decide +kernel
theorem dX7_init_54 : decode cX7_init 54 = .ok (.invokestatic 32, 3) := by decide +kernel
theorem dX7_init_57 : decode cX7_init 57 = .ok (.return_, 1) := by decide +kernel
theorem dX7_forget_0 : decode cX7_forget 0 = .ok (.aload_n 0, 1) := by decide +kernel
theorem dX7_forget_1 : decode cX7_forget 1 = .ok (.getfield 9, 3) := by decide +kernel
theorem dX7_forget_4 : decode cX7_forget 4 = .ok (.iconst (-1), 1) := by decide +kernel
theorem dX7_forget_5 : decode cX7_forget 5 = .ok (.invokestatic 32, 3) := by decide +kernel
theorem dX7_forget_8 : decode cX7_forget 8 = .ok (.return_, 1) := by decide +kernel
theorem dX7_faultyCells_0 : decode cX7_faultyCells 0 = .ok (.iconst 0, 1) := by decide +kernel
theorem dX7_faultyCells_1 : decode cX7_faultyCells 1 = .ok (.istore_n 1, 1) := by decide +kernel
theorem dX7_faultyCells_2 : decode cX7_faultyCells 2 = .ok (.iconst 0, 1) := by decide +kernel
theorem dX7_faultyCells_3 : decode cX7_faultyCells 3 = .ok (.istore_n 2, 1) := by decide +kernel
theorem dX7_faultyCells_4 : decode cX7_faultyCells 4 = .ok (.iload_n 2, 1) := by decide +kernel
theorem dX7_faultyCells_5 : decode cX7_faultyCells 5 = .ok (.bipush 36, 2) := by decide +kernel
theorem dX7_faultyCells_7 : decode cX7_faultyCells 7 = .ok (.if_icmp .ge 20, 3) := by decide +kernel
theorem dX7_faultyCells_10 : decode cX7_faultyCells 10 = .ok (.aload_n 0, 1) := by decide +kernel
theorem dX7_faultyCells_11 : decode cX7_faultyCells 11 = .ok (.iload_n 2, 1) := by decide +kernel
theorem dX7_faultyCells_12 : decode cX7_faultyCells 12 = .ok (.invokevirtual 38, 3) := by decide +kernel
theorem dX7_faultyCells_15 : decode cX7_faultyCells 15 = .ok (.ifCond .eq 6, 3) := by decide +kernel
theorem dX7_faultyCells_18 : decode cX7_faultyCells 18 = .ok (.iinc 1 1, 3) := by decide +kernel
theorem dX7_faultyCells_21 : decode cX7_faultyCells 21 = .ok (.iinc 2 1, 3) := by decide +kernel
theorem dX7_faultyCells_24 : decode cX7_faultyCells 24 = .ok (.goto (-20), 3) := by decide +kernel
theorem dX7_faultyCells_27 : decode cX7_faultyCells 27 = .ok (.iload_n 1, 1) := by decide +kernel
theorem dX7_faultyCells_28 : decode cX7_faultyCells 28 = .ok (.ireturn, 1) := by decide +kernel
theorem dX7_isFaulty_0 : decode cX7_isFaulty 0 = .ok (.aload_n 0, 1) := by decide +kernel
theorem dX7_isFaulty_1 : decode cX7_isFaulty 1 = .ok (.getfield 9, 3) := by decide +kernel
theorem dX7_isFaulty_4 : decode cX7_isFaulty 4 = .ok (.iload_n 1, 1) := by decide +kernel
theorem dX7_isFaulty_5 : decode cX7_isFaulty 5 = .ok (.iaload, 1) := by decide +kernel
theorem dX7_isFaulty_6 : decode cX7_isFaulty 6 = .ok (.iconst (-1), 1) := by decide +kernel
theorem dX7_isFaulty_7 : decode cX7_isFaulty 7 = .ok (.if_icmp .ne 52, 3) := by decide +kernel
theorem dX7_isFaulty_10 : decode cX7_isFaulty 10 = .ok (.aload_n 0, 1) := by decide +kernel
theorem dX7_isFaulty_11 : decode cX7_isFaulty 11 = .ok (.iconst 0, 1) := by decide +kernel
theorem dX7_isFaulty_12 : decode cX7_isFaulty 12 = .ok (.putfield 42, 3) := by decide +kernel
theorem dX7_isFaulty_15 : decode cX7_isFaulty 15 = .ok (.aload_n 0, 1) := by decide +kernel
theorem dX7_isFaulty_16 : decode cX7_isFaulty 16 = .ok (.iload_n 1, 1) := by decide +kernel
theorem dX7_isFaulty_17 : decode cX7_isFaulty 17 = .ok (.iconst 0, 1) := by decide +kernel
theorem dX7_isFaulty_18 : decode cX7_isFaulty 18 = .ok (.invokevirtual 46, 3) := by decide +kernel
theorem dX7_isFaulty_21 : decode cX7_isFaulty 21 = .ok (.pop, 1) := by decide +kernel
theorem dX7_isFaulty_22 : decode cX7_isFaulty 22 = .ok (.aload_n 0, 1) := by decide +kernel
theorem dX7_isFaulty_23 : decode cX7_isFaulty 23 = .ok (.getfield 42, 3) := by decide +kernel
theorem dX7_isFaulty_26 : decode cX7_isFaulty 26 = .ok (.ifCond .eq 33, 3) := by decide +kernel
theorem dX7_isFaulty_29 : decode cX7_isFaulty 29 = .ok (.aload_n 0, 1) := by decide +kernel
theorem dX7_isFaulty_30 : decode cX7_isFaulty 30 = .ok (.getfield 9, 3) := by decide +kernel
theorem dX7_isFaulty_33 : decode cX7_isFaulty 33 = .ok (.iload_n 1, 1) := by decide +kernel
theorem dX7_isFaulty_34 : decode cX7_isFaulty 34 = .ok (.aload_n 0, 1) := by decide +kernel
theorem dX7_isFaulty_35 : decode cX7_isFaulty 35 = .ok (.getfield 42, 3) := by decide +kernel
theorem dX7_isFaulty_38 : decode cX7_isFaulty 38 = .ok (.iastore, 1) := by decide +kernel
theorem dX7_isFaulty_39 : decode cX7_isFaulty 39 = .ok (.aload_n 0, 1) := by decide +kernel
theorem dX7_isFaulty_40 : decode cX7_isFaulty 40 = .ok (.getfield 18, 3) := by decide +kernel
theorem dX7_isFaulty_43 : decode cX7_isFaulty 43 = .ok (.iload_n 1, 1) := by decide +kernel
theorem dX7_isFaulty_44 : decode cX7_isFaulty 44 = .ok (.aload_n 0, 1) := by decide +kernel
theorem dX7_isFaulty_45 : decode cX7_isFaulty 45 = .ok (.getfield 50, 3) := by decide +kernel
theorem dX7_isFaulty_48 : decode cX7_isFaulty 48 = .ok (.iastore, 1) := by decide +kernel
theorem dX7_isFaulty_49 : decode cX7_isFaulty 49 = .ok (.aload_n 0, 1) := by decide +kernel
theorem dX7_isFaulty_50 : decode cX7_isFaulty 50 = .ok (.getfield 21, 3) := by decide +kernel
theorem dX7_isFaulty_53 : decode cX7_isFaulty 53 = .ok (.iload_n 1, 1) := by decide +kernel
theorem dX7_isFaulty_54 : decode cX7_isFaulty 54 = .ok (.aload_n 0, 1) := by decide +kernel
theorem dX7_isFaulty_55 : decode cX7_isFaulty 55 = .ok (.getfield 53, 3) := by decide +kernel
theorem dX7_isFaulty_58 : decode cX7_isFaulty 58 = .ok (.iastore, 1) := by decide +kernel
theorem dX7_isFaulty_59 : decode cX7_isFaulty 59 = .ok (.aload_n 0, 1) := by decide +kernel
theorem dX7_isFaulty_60 : decode cX7_isFaulty 60 = .ok (.getfield 9, 3) := by decide +kernel
theorem dX7_isFaulty_63 : decode cX7_isFaulty 63 = .ok (.iload_n 1, 1) := by decide +kernel
theorem dX7_isFaulty_64 : decode cX7_isFaulty 64 = .ok (.iaload, 1) := by decide +kernel
theorem dX7_isFaulty_65 : decode cX7_isFaulty 65 = .ok (.ifCond .eq 7, 3) := by decide +kernel
theorem dX7_isFaulty_68 : decode cX7_isFaulty 68 = .ok (.iconst 1, 1) := by decide +kernel
theorem dX7_isFaulty_69 : decode cX7_isFaulty 69 = .ok (.goto 4, 3) := by decide +kernel
theorem dX7_isFaulty_72 : decode cX7_isFaulty 72 = .ok (.iconst 0, 1) := by decide +kernel
theorem dX7_isFaulty_73 : decode cX7_isFaulty 73 = .ok (.ireturn, 1) := by decide +kernel
theorem dX7_ask_0 : decode cX7_ask 0 = .ok (.aload_n 0, 1) := by decide +kernel
theorem dX7_ask_1 : decode cX7_ask 1 = .ok (.getfield 9, 3) := by decide +kernel
theorem dX7_ask_4 : decode cX7_ask 4 = .ok (.iload_n 1, 1) := by decide +kernel
theorem dX7_ask_5 : decode cX7_ask 5 = .ok (.iaload, 1) := by decide +kernel
theorem dX7_ask_6 : decode cX7_ask 6 = .ok (.ifCond .ne 10, 3) := by decide +kernel
theorem dX7_ask_9 : decode cX7_ask 9 = .ok (.aload_n 0, 1) := by decide +kernel
theorem dX7_ask_10 : decode cX7_ask 10 = .ok (.getfield 15, 3) := by decide +kernel
theorem dX7_ask_13 : decode cX7_ask 13 = .ok (.iload_n 1, 1) := by decide +kernel
theorem dX7_ask_14 : decode cX7_ask 14 = .ok (.iaload, 1) := by decide +kernel
theorem dX7_ask_15 : decode cX7_ask 15 = .ok (.ireturn, 1) := by decide +kernel
theorem dX7_ask_16 : decode cX7_ask 16 = .ok (.aload_n 0, 1) := by decide +kernel
theorem dX7_ask_17 : decode cX7_ask 17 = .ok (.getfield 24, 3) := by decide +kernel
theorem dX7_ask_20 : decode cX7_ask 20 = .ok (.iload_n 1, 1) := by decide +kernel
theorem dX7_ask_21 : decode cX7_ask 21 = .ok (.baload, 1) := by decide +kernel
theorem dX7_ask_22 : decode cX7_ask 22 = .ok (.ifCond .ne 9, 3) := by decide +kernel
theorem dX7_ask_25 : decode cX7_ask 25 = .ok (.iload_n 2, 1) := by decide +kernel
theorem dX7_ask_26 : decode cX7_ask 26 = .ok (.bipush 36, 2) := by decide +kernel
theorem dX7_ask_28 : decode cX7_ask 28 = .ok (.if_icmp .lt 14, 3) := by decide +kernel
theorem dX7_ask_31 : decode cX7_ask 31 = .ok (.aload_n 0, 1) := by decide +kernel
theorem dX7_ask_32 : decode cX7_ask 32 = .ok (.iconst 2, 1) := by decide +kernel
theorem dX7_ask_33 : decode cX7_ask 33 = .ok (.iload_n 1, 1) := by decide +kernel
theorem dX7_ask_34 : decode cX7_ask 34 = .ok (.iload_n 2, 1) := by decide +kernel
theorem dX7_ask_35 : decode cX7_ask 35 = .ok (.iconst 1, 1) := by decide +kernel
theorem dX7_ask_36 : decode cX7_ask 36 = .ok (.isub, 1) := by decide +kernel
theorem dX7_ask_37 : decode cX7_ask 37 = .ok (.invokevirtual 56, 3) := by decide +kernel
theorem dX7_ask_40 : decode cX7_ask 40 = .ok (.iconst 0, 1) := by decide +kernel
theorem dX7_ask_41 : decode cX7_ask 41 = .ok (.ireturn, 1) := by decide +kernel
theorem dX7_ask_42 : decode cX7_ask 42 = .ok (.aload_n 0, 1) := by decide +kernel
theorem dX7_ask_43 : decode cX7_ask 43 = .ok (.getfield 24, 3) := by decide +kernel
theorem dX7_ask_46 : decode cX7_ask 46 = .ok (.iload_n 1, 1) := by decide +kernel
theorem dX7_ask_47 : decode cX7_ask 47 = .ok (.iconst 1, 1) := by decide +kernel
theorem dX7_ask_48 : decode cX7_ask 48 = .ok (.bastore, 1) := by decide +kernel
theorem dX7_ask_49 : decode cX7_ask 49 = .ok (.iconst 0, 1) := by decide +kernel
theorem dX7_ask_50 : decode cX7_ask 50 = .ok (.istore_n 3, 1) := by decide +kernel
theorem dX7_ask_51 : decode cX7_ask 51 = .ok (.iconst 0, 1) := by decide +kernel
theorem dX7_ask_52 : decode cX7_ask 52 = .ok (.istore 4, 2) := by decide +kernel
theorem dX7_ask_54 : decode cX7_ask 54 = .ok (.iload 4, 2) := by decide +kernel
theorem dX7_ask_56 : decode cX7_ask 56 = .ok (.iconst 4, 1) := by decide +kernel
theorem dX7_ask_57 : decode cX7_ask 57 = .ok (.if_icmp .ge 34, 3) := by decide +kernel
theorem dX7_ask_60 : decode cX7_ask 60 = .ok (.aload_n 0, 1) := by decide +kernel
theorem dX7_ask_61 : decode cX7_ask 61 = .ok (.getfield 42, 3) := by decide +kernel
theorem dX7_ask_64 : decode cX7_ask 64 = .ok (.ifCond .ne 27, 3) := by decide +kernel
theorem dX7_ask_67 : decode cX7_ask 67 = .ok (.aload_n 0, 1) := by decide +kernel
theorem dX7_ask_68 : decode cX7_ask 68 = .ok (.iload_n 3, 1) := by decide +kernel
theorem dX7_ask_69 : decode cX7_ask 69 = .ok (.aload_n 0, 1) := by decide +kernel
theorem dX7_ask_70 : decode cX7_ask 70 = .ok (.getfield 28, 3) := by decide +kernel
theorem dX7_ask_73 : decode cX7_ask 73 = .ok (.iload_n 1, 1) := by decide +kernel
theorem dX7_ask_74 : decode cX7_ask 74 = .ok (.iload 4, 2) := by decide +kernel
theorem dX7_ask_76 : decode cX7_ask 76 = .ok (.invokevirtual 60, 3) := by decide +kernel
theorem dX7_ask_79 : decode cX7_ask 79 = .ok (.iload_n 1, 1) := by decide +kernel
theorem dX7_ask_80 : decode cX7_ask 80 = .ok (.iload_n 2, 1) := by decide +kernel
theorem dX7_ask_81 : decode cX7_ask 81 = .ok (.invokevirtual 65, 3) := by decide +kernel
theorem dX7_ask_84 : decode cX7_ask 84 = .ok (.istore_n 3, 1) := by decide +kernel
theorem dX7_ask_85 : decode cX7_ask 85 = .ok (.iinc 4 1, 3) := by decide +kernel
theorem dX7_ask_88 : decode cX7_ask 88 = .ok (.goto (-34), 3) := by decide +kernel
theorem dX7_ask_91 : decode cX7_ask 91 = .ok (.aload_n 0, 1) := by decide +kernel
theorem dX7_ask_92 : decode cX7_ask 92 = .ok (.getfield 24, 3) := by decide +kernel
theorem dX7_ask_95 : decode cX7_ask 95 = .ok (.iload_n 1, 1) := by decide +kernel
theorem dX7_ask_96 : decode cX7_ask 96 = .ok (.iconst 0, 1) := by decide +kernel
theorem dX7_ask_97 : decode cX7_ask 97 = .ok (.bastore, 1) := by decide +kernel
theorem dX7_ask_98 : decode cX7_ask 98 = .ok (.aload_n 0, 1) := by decide +kernel
theorem dX7_ask_99 : decode cX7_ask 99 = .ok (.getfield 42, 3) := by decide +kernel
theorem dX7_ask_102 : decode cX7_ask 102 = .ok (.ifCond .ne 17, 3) := by decide +kernel
theorem dX7_ask_105 : decode cX7_ask 105 = .ok (.aload_n 0, 1) := by decide +kernel
theorem dX7_ask_106 : decode cX7_ask 106 = .ok (.getfield 9, 3) := by decide +kernel
theorem dX7_ask_109 : decode cX7_ask 109 = .ok (.iload_n 1, 1) := by decide +kernel
theorem dX7_ask_110 : decode cX7_ask 110 = .ok (.iconst 0, 1) := by decide +kernel
theorem dX7_ask_111 : decode cX7_ask 111 = .ok (.iastore, 1) := by decide +kernel
theorem dX7_ask_112 : decode cX7_ask 112 = .ok (.aload_n 0, 1) := by decide +kernel
theorem dX7_ask_113 : decode cX7_ask 113 = .ok (.getfield 15, 3) := by decide +kernel
theorem dX7_ask_116 : decode cX7_ask 116 = .ok (.iload_n 1, 1) := by decide +kernel
theorem dX7_ask_117 : decode cX7_ask 117 = .ok (.iload_n 3, 1) := by decide +kernel
theorem dX7_ask_118 : decode cX7_ask 118 = .ok (.iastore, 1) := by decide +kernel
theorem dX7_ask_119 : decode cX7_ask 119 = .ok (.iload_n 3, 1) := by decide +kernel
theorem dX7_ask_120 : decode cX7_ask 120 = .ok (.ireturn, 1) := by decide +kernel
theorem dX7_addTerm_0 : decode cX7_addTerm 0 = .ok (.iload_n 2, 1) := by decide +kernel
theorem dX7_addTerm_1 : decode cX7_addTerm 1 = .ok (.invokestatic 69, 3) := by decide +kernel
theorem dX7_addTerm_4 : decode cX7_addTerm 4 = .ok (.iconst 1, 1) := by decide +kernel
theorem dX7_addTerm_5 : decode cX7_addTerm 5 = .ok (.if_icmp .ne 16, 3) := by decide +kernel
theorem dX7_addTerm_8 : decode cX7_addTerm 8 = .ok (.aload_n 0, 1) := by decide +kernel
theorem dX7_addTerm_9 : decode cX7_addTerm 9 = .ok (.iload_n 1, 1) := by decide +kernel
theorem dX7_addTerm_10 : decode cX7_addTerm 10 = .ok (.iload_n 2, 1) := by decide +kernel
theorem dX7_addTerm_11 : decode cX7_addTerm 11 = .ok (.invokestatic 75, 3) := by decide +kernel
theorem dX7_addTerm_14 : decode cX7_addTerm 14 = .ok (.iload_n 3, 1) := by decide +kernel
theorem dX7_addTerm_15 : decode cX7_addTerm 15 = .ok (.iload 4, 2) := by decide +kernel
theorem dX7_addTerm_17 : decode cX7_addTerm 17 = .ok (.invokevirtual 78, 3) := by decide +kernel
theorem dX7_addTerm_20 : decode cX7_addTerm 20 = .ok (.ireturn, 1) := by decide +kernel
theorem dX7_addTerm_21 : decode cX7_addTerm 21 = .ok (.iload_n 2, 1) := by decide +kernel
theorem dX7_addTerm_22 : decode cX7_addTerm 22 = .ok (.invokestatic 69, 3) := by decide +kernel
theorem dX7_addTerm_25 : decode cX7_addTerm 25 = .ok (.iconst 4, 1) := by decide +kernel
theorem dX7_addTerm_26 : decode cX7_addTerm 26 = .ok (.if_icmp .ne 11, 3) := by decide +kernel
theorem dX7_addTerm_29 : decode cX7_addTerm 29 = .ok (.aload_n 0, 1) := by decide +kernel
theorem dX7_addTerm_30 : decode cX7_addTerm 30 = .ok (.iconst 1, 1) := by decide +kernel
theorem dX7_addTerm_31 : decode cX7_addTerm 31 = .ok (.iload_n 3, 1) := by decide +kernel
theorem dX7_addTerm_32 : decode cX7_addTerm 32 = .ok (.iload 4, 2) := by decide +kernel
theorem dX7_addTerm_34 : decode cX7_addTerm 34 = .ok (.invokevirtual 56, 3) := by decide +kernel
theorem dX7_addTerm_37 : decode cX7_addTerm 37 = .ok (.iload_n 2, 1) := by decide +kernel
theorem dX7_addTerm_38 : decode cX7_addTerm 38 = .ok (.invokestatic 81, 3) := by decide +kernel
theorem dX7_addTerm_41 : decode cX7_addTerm 41 = .ok (.ifCond .ne 5, 3) := by decide +kernel
theorem dX7_addTerm_44 : decode cX7_addTerm 44 = .ok (.iload_n 1, 1) := by decide +kernel
theorem dX7_addTerm_45 : decode cX7_addTerm 45 = .ok (.ireturn, 1) := by decide +kernel
theorem dX7_addTerm_46 : decode cX7_addTerm 46 = .ok (.iload_n 1, 1) := by decide +kernel
theorem dX7_addTerm_47 : decode cX7_addTerm 47 = .ok (.istore 5, 2) := by decide +kernel
theorem dX7_addTerm_49 : decode cX7_addTerm 49 = .ok (.iload_n 2, 1) := by decide +kernel
theorem dX7_addTerm_50 : decode cX7_addTerm 50 = .ok (.iconst 1, 1) := by decide +kernel
theorem dX7_addTerm_51 : decode cX7_addTerm 51 = .ok (.invokestatic 84, 3) := by decide +kernel
theorem dX7_addTerm_54 : decode cX7_addTerm 54 = .ok (.istore 6, 2) := by decide +kernel
theorem dX7_addTerm_56 : decode cX7_addTerm 56 = .ok (.iload_n 2, 1) := by decide +kernel
theorem dX7_addTerm_57 : decode cX7_addTerm 57 = .ok (.iconst 0, 1) := by decide +kernel
theorem dX7_addTerm_58 : decode cX7_addTerm 58 = .ok (.invokestatic 84, 3) := by decide +kernel
theorem dX7_addTerm_61 : decode cX7_addTerm 61 = .ok (.istore 7, 2) := by decide +kernel
theorem dX7_addTerm_63 : decode cX7_addTerm 63 = .ok (.iload_n 2, 1) := by decide +kernel
theorem dX7_addTerm_64 : decode cX7_addTerm 64 = .ok (.iconst 1, 1) := by decide +kernel
theorem dX7_addTerm_65 : decode cX7_addTerm 65 = .ok (.invokestatic 87, 3) := by decide +kernel
theorem dX7_addTerm_68 : decode cX7_addTerm 68 = .ok (.istore 8, 2) := by decide +kernel
theorem dX7_addTerm_70 : decode cX7_addTerm 70 = .ok (.iload 8, 2) := by decide +kernel
theorem dX7_addTerm_72 : decode cX7_addTerm 72 = .ok (.iload 6, 2) := by decide +kernel
theorem dX7_addTerm_74 : decode cX7_addTerm 74 = .ok (.if_icmp .gt 87, 3) := by decide +kernel
theorem dX7_addTerm_77 : decode cX7_addTerm 77 = .ok (.aload_n 0, 1) := by decide +kernel
theorem dX7_addTerm_78 : decode cX7_addTerm 78 = .ok (.getfield 42, 3) := by decide +kernel
theorem dX7_addTerm_81 : decode cX7_addTerm 81 = .ok (.ifCond .ne 80, 3) := by decide +kernel
theorem dX7_addTerm_84 : decode cX7_addTerm 84 = .ok (.iload_n 2, 1) := by decide +kernel
theorem dX7_addTerm_85 : decode cX7_addTerm 85 = .ok (.iconst 0, 1) := by decide +kernel
theorem dX7_addTerm_86 : decode cX7_addTerm 86 = .ok (.invokestatic 87, 3) := by decide +kernel
theorem dX7_addTerm_89 : decode cX7_addTerm 89 = .ok (.istore 9, 2) := by decide +kernel
theorem dX7_addTerm_91 : decode cX7_addTerm 91 = .ok (.iload 9, 2) := by decide +kernel
theorem dX7_addTerm_93 : decode cX7_addTerm 93 = .ok (.iload 7, 2) := by decide +kernel
theorem dX7_addTerm_95 : decode cX7_addTerm 95 = .ok (.if_icmp .gt 60, 3) := by decide +kernel
theorem dX7_addTerm_98 : decode cX7_addTerm 98 = .ok (.aload_n 0, 1) := by decide +kernel
theorem dX7_addTerm_99 : decode cX7_addTerm 99 = .ok (.getfield 42, 3) := by decide +kernel
theorem dX7_addTerm_102 : decode cX7_addTerm 102 = .ok (.ifCond .ne 53, 3) := by decide +kernel
theorem dX7_addTerm_105 : decode cX7_addTerm 105 = .ok (.iload 9, 2) := by decide +kernel
theorem dX7_addTerm_107 : decode cX7_addTerm 107 = .ok (.iload 8, 2) := by decide +kernel
theorem dX7_addTerm_109 : decode cX7_addTerm 109 = .ok (.invokestatic 90, 3) := by decide +kernel
theorem dX7_addTerm_112 : decode cX7_addTerm 112 = .ok (.ifCond .eq 21, 3) := by decide +kernel
theorem dX7_addTerm_115 : decode cX7_addTerm 115 = .ok (.aload_n 0, 1) := by decide +kernel
theorem dX7_addTerm_116 : decode cX7_addTerm 116 = .ok (.iload 9, 2) := by decide +kernel
theorem dX7_addTerm_118 : decode cX7_addTerm 118 = .ok (.iload 8, 2) := by decide +kernel
theorem dX7_addTerm_120 : decode cX7_addTerm 120 = .ok (.invokestatic 94, 3) := by decide +kernel
theorem dX7_addTerm_123 : decode cX7_addTerm 123 = .ok (.iload 4, 2) := by decide +kernel
theorem dX7_addTerm_125 : decode cX7_addTerm 125 = .ok (.iconst 1, 1) := by decide +kernel
theorem dX7_addTerm_126 : decode cX7_addTerm 126 = .ok (.iadd, 1) := by decide +kernel
theorem dX7_addTerm_127 : decode cX7_addTerm 127 = .ok (.invokevirtual 46, 3) := by decide +kernel
theorem dX7_addTerm_130 : decode cX7_addTerm 130 = .ok (.goto 4, 3) := by decide +kernel
theorem dX7_addTerm_133 : decode cX7_addTerm 133 = .ok (.iconst 0, 1) := by decide +kernel
theorem dX7_addTerm_134 : decode cX7_addTerm 134 = .ok (.istore 10, 2) := by decide +kernel
theorem dX7_addTerm_136 : decode cX7_addTerm 136 = .ok (.aload_n 0, 1) := by decide +kernel
theorem dX7_addTerm_137 : decode cX7_addTerm 137 = .ok (.iload 5, 2) := by decide +kernel
theorem dX7_addTerm_139 : decode cX7_addTerm 139 = .ok (.iload 10, 2) := by decide +kernel
theorem dX7_addTerm_141 : decode cX7_addTerm 141 = .ok (.iload_n 3, 1) := by decide +kernel
theorem dX7_addTerm_142 : decode cX7_addTerm 142 = .ok (.iload 4, 2) := by decide +kernel
theorem dX7_addTerm_144 : decode cX7_addTerm 144 = .ok (.invokevirtual 78, 3) := by decide +kernel
theorem dX7_addTerm_147 : decode cX7_addTerm 147 = .ok (.istore 5, 2) := by decide +kernel
theorem dX7_addTerm_149 : decode cX7_addTerm 149 = .ok (.iinc 9 1, 3) := by decide +kernel
theorem dX7_addTerm_152 : decode cX7_addTerm 152 = .ok (.goto (-61), 3) := by decide +kernel
theorem dX7_addTerm_155 : decode cX7_addTerm 155 = .ok (.iinc 8 1, 3) := by decide +kernel
theorem dX7_addTerm_158 : decode cX7_addTerm 158 = .ok (.goto (-88), 3) := by decide +kernel
theorem dX7_addTerm_161 : decode cX7_addTerm 161 = .ok (.iload 5, 2) := by decide +kernel
theorem dX7_addTerm_163 : decode cX7_addTerm 163 = .ok (.ireturn, 1) := by decide +kernel
theorem dX7_add_0 : decode cX7_add 0 = .ok (.iload_n 1, 1) := by decide +kernel
theorem dX7_add_1 : decode cX7_add 1 = .ok (.iload_n 2, 1) := by decide +kernel
theorem dX7_add_2 : decode cX7_add 2 = .ok (.iadd, 1) := by decide +kernel
theorem dX7_add_3 : decode cX7_add 3 = .ok (.ldc 97, 2) := by decide +kernel
theorem dX7_add_5 : decode cX7_add 5 = .ok (.if_icmp .le 11, 3) := by decide +kernel
theorem dX7_add_8 : decode cX7_add 8 = .ok (.aload_n 0, 1) := by decide +kernel
theorem dX7_add_9 : decode cX7_add 9 = .ok (.iconst 3, 1) := by decide +kernel
theorem dX7_add_10 : decode cX7_add 10 = .ok (.iload_n 3, 1) := by decide +kernel
theorem dX7_add_11 : decode cX7_add 11 = .ok (.iload 4, 2) := by decide +kernel
theorem dX7_add_13 : decode cX7_add 13 = .ok (.invokevirtual 56, 3) := by decide +kernel
theorem dX7_add_16 : decode cX7_add 16 = .ok (.iload_n 1, 1) := by decide +kernel
theorem dX7_add_17 : decode cX7_add 17 = .ok (.iload_n 2, 1) := by decide +kernel
theorem dX7_add_18 : decode cX7_add 18 = .ok (.iadd, 1) := by decide +kernel
theorem dX7_add_19 : decode cX7_add 19 = .ok (.ireturn, 1) := by decide +kernel
theorem dX7_meet_0 : decode cX7_meet 0 = .ok (.aload_n 0, 1) := by decide +kernel
theorem dX7_meet_1 : decode cX7_meet 1 = .ok (.getfield 42, 3) := by decide +kernel
theorem dX7_meet_4 : decode cX7_meet 4 = .ok (.ifCond .ne 18, 3) := by decide +kernel
theorem dX7_meet_7 : decode cX7_meet 7 = .ok (.aload_n 0, 1) := by decide +kernel
theorem dX7_meet_8 : decode cX7_meet 8 = .ok (.iload_n 1, 1) := by decide +kernel
theorem dX7_meet_9 : decode cX7_meet 9 = .ok (.putfield 42, 3) := by decide +kernel
theorem dX7_meet_12 : decode cX7_meet 12 = .ok (.aload_n 0, 1) := by decide +kernel
theorem dX7_meet_13 : decode cX7_meet 13 = .ok (.iload_n 2, 1) := by decide +kernel
theorem dX7_meet_14 : decode cX7_meet 14 = .ok (.putfield 50, 3) := by decide +kernel
theorem dX7_meet_17 : decode cX7_meet 17 = .ok (.aload_n 0, 1) := by decide +kernel
theorem dX7_meet_18 : decode cX7_meet 18 = .ok (.iload_n 3, 1) := by decide +kernel
theorem dX7_meet_19 : decode cX7_meet 19 = .ok (.putfield 53, 3) := by decide +kernel
theorem dX7_meet_22 : decode cX7_meet 22 = .ok (.return_, 1) := by decide +kernel
theorem dX8_init_0 : decode cX8_init 0 = .ok (.aload_n 0, 1) := by decide +kernel
theorem dX8_init_1 : decode cX8_init 1 = .ok (.invokespecial 3, 3) := by decide +kernel
theorem dX8_init_4 : decode cX8_init 4 = .ok (.aload_n 0, 1) := by decide +kernel
theorem dX8_init_5 : decode cX8_init 5 = .ok (.new 9, 3) := by decide +kernel
theorem dX8_init_8 : decode cX8_init 8 = .ok (.dup, 1) := by decide +kernel
theorem dX8_init_9 : decode cX8_init 9 = .ok (.invokespecial 11, 3) := by decide +kernel
theorem dX8_init_12 : decode cX8_init 12 = .ok (.putfield 12, 3) := by decide +kernel
theorem dX8_init_15 : decode cX8_init 15 = .ok (.aload_n 0, 1) := by decide +kernel
theorem dX8_init_16 : decode cX8_init 16 = .ok (.new 16, 3) := by decide +kernel
theorem dX8_init_19 : decode cX8_init 19 = .ok (.dup, 1) := by decide +kernel
theorem dX8_init_20 : decode cX8_init 20 = .ok (.aload_n 0, 1) := by decide +kernel
theorem dX8_init_21 : decode cX8_init 21 = .ok (.getfield 12, 3) := by decide +kernel
theorem dX8_init_24 : decode cX8_init 24 = .ok (.invokespecial 18, 3) := by decide +kernel
theorem dX8_init_27 : decode cX8_init 27 = .ok (.putfield 21, 3) := by decide +kernel
theorem dX8_init_30 : decode cX8_init 30 = .ok (.aload_n 0, 1) := by decide +kernel
theorem dX8_init_31 : decode cX8_init 31 = .ok (.new 25, 3) := by decide +kernel
theorem dX8_init_34 : decode cX8_init 34 = .ok (.dup, 1) := by decide +kernel
theorem dX8_init_35 : decode cX8_init 35 = .ok (.invokespecial 27, 3) := by decide +kernel
theorem dX8_init_38 : decode cX8_init 38 = .ok (.putfield 28, 3) := by decide +kernel
theorem dX8_init_41 : decode cX8_init 41 = .ok (.aload_n 0, 1) := by decide +kernel
theorem dX8_init_42 : decode cX8_init 42 = .ok (.new 32, 3) := by decide +kernel
theorem dX8_init_45 : decode cX8_init 45 = .ok (.dup, 1) := by decide +kernel
theorem dX8_init_46 : decode cX8_init 46 = .ok (.invokespecial 34, 3) := by decide +kernel
theorem dX8_init_49 : decode cX8_init 49 = .ok (.putfield 35, 3) := by decide +kernel
theorem dX8_init_52 : decode cX8_init 52 = .ok (.aload_n 0, 1) := by decide +kernel
theorem dX8_init_53 : decode cX8_init 53 = .ok (.new 39, 3) := by decide +kernel
theorem dX8_init_56 : decode cX8_init 56 = .ok (.dup, 1) := by decide +kernel
theorem dX8_init_57 : decode cX8_init 57 = .ok (.aload_n 0, 1) := by decide +kernel
theorem dX8_init_58 : decode cX8_init 58 = .ok (.getfield 28, 3) := by decide +kernel
theorem dX8_init_61 : decode cX8_init 61 = .ok (.invokespecial 41, 3) := by decide +kernel
theorem dX8_init_64 : decode cX8_init 64 = .ok (.putfield 44, 3) := by decide +kernel
theorem dX8_init_67 : decode cX8_init 67 = .ok (.aload_n 0, 1) := by decide +kernel
theorem dX8_init_68 : decode cX8_init 68 = .ok (.new 48, 3) := by decide +kernel
theorem dX8_init_71 : decode cX8_init 71 = .ok (.dup, 1) := by decide +kernel
theorem dX8_init_72 : decode cX8_init 72 = .ok (.invokespecial 50, 3) := by decide +kernel
theorem dX8_init_75 : decode cX8_init 75 = .ok (.putfield 51, 3) := by decide +kernel
theorem dX8_init_78 : decode cX8_init 78 = .ok (.return_, 1) := by decide +kernel
theorem dX8_type_0 : decode cX8_type 0 = .ok (.iload_n 1, 1) := by decide +kernel
theorem dX8_type_1 : decode cX8_type 1 = .ok (.iconst 0, 1) := by decide +kernel
theorem dX8_type_2 : decode cX8_type 2 = .ok (.bipush 127, 2) := by decide +kernel
theorem dX8_type_4 : decode cX8_type 4 = .ok (.invokestatic 55, 3) := by decide +kernel
theorem dX8_type_7 : decode cX8_type 7 = .ok (.ifCond .ne 10, 3) := by decide +kernel
theorem dX8_type_10 : decode cX8_type 10 = .ok (.aload_n 0, 1) := by decide +kernel
theorem dX8_type_11 : decode cX8_type 11 = .ok (.bipush (-2), 2) := by decide +kernel
theorem dX8_type_13 : decode cX8_type 13 = .ok (.invokevirtual 59, 3) := by decide +kernel
theorem dX8_type_16 : decode cX8_type 16 = .ok (.ireturn, 1) := by decide +kernel
theorem dX8_type_17 : decode cX8_type 17 = .ok (.aload_n 0, 1) := by decide +kernel
theorem dX8_type_18 : decode cX8_type 18 = .ok (.getfield 12, 3) := by decide +kernel
theorem dX8_type_21 : decode cX8_type 21 = .ok (.invokevirtual 63, 3) := by decide +kernel
theorem dX8_type_24 : decode cX8_type 24 = .ok (.ifCond .eq 10, 3) := by decide +kernel
theorem dX8_type_27 : decode cX8_type 27 = .ok (.aload_n 0, 1) := by decide +kernel
theorem dX8_type_28 : decode cX8_type 28 = .ok (.bipush (-4), 2) := by decide +kernel
theorem dX8_type_30 : decode cX8_type 30 = .ok (.invokevirtual 59, 3) := by decide +kernel
theorem dX8_type_33 : decode cX8_type 33 = .ok (.ireturn, 1) := by decide +kernel
theorem dX8_type_34 : decode cX8_type 34 = .ok (.aload_n 0, 1) := by decide +kernel
theorem dX8_type_35 : decode cX8_type 35 = .ok (.getfield 12, 3) := by decide +kernel
theorem dX8_type_38 : decode cX8_type 38 = .ok (.iload_n 1, 1) := by decide +kernel
theorem dX8_type_39 : decode cX8_type 39 = .ok (.invokevirtual 67, 3) := by decide +kernel
theorem dX8_type_42 : decode cX8_type 42 = .ok (.ireturn, 1) := by decide +kernel
theorem dX8_clear_0 : decode cX8_clear 0 = .ok (.aload_n 0, 1) := by decide +kernel
theorem dX8_clear_1 : decode cX8_clear 1 = .ok (.getfield 12, 3) := by decide +kernel
theorem dX8_clear_4 : decode cX8_clear 4 = .ok (.invokevirtual 70, 3) := by decide +kernel
theorem dX8_clear_7 : decode cX8_clear 7 = .ok (.ireturn, 1) := by decide +kernel
theorem dX8_put_0 : decode cX8_put 0 = .ok (.iload_n 1, 1) := by decide +kernel
theorem dX8_put_1 : decode cX8_put 1 = .ok (.iload_n 2, 1) := by decide +kernel
theorem dX8_put_2 : decode cX8_put 2 = .ok (.invokestatic 74, 3) := by decide +kernel
theorem dX8_put_5 : decode cX8_put 5 = .ok (.ifCond .ne 10, 3) := by decide +kernel
theorem dX8_put_8 : decode cX8_put 8 = .ok (.aload_n 0, 1) := by decide +kernel
theorem dX8_put_9 : decode cX8_put 9 = .ok (.bipush (-2), 2) := by decide +kernel
theorem dX8_put_11 : decode cX8_put 11 = .ok (.invokevirtual 59, 3) := by decide +kernel
theorem dX8_put_14 : decode cX8_put 14 = .ok (.ireturn, 1) := by decide +kernel
theorem dX8_put_15 : decode cX8_put 15 = .ok (.aload_n 0, 1) := by decide +kernel
theorem dX8_put_16 : decode cX8_put 16 = .ok (.getfield 21, 3) := by decide +kernel
theorem dX8_put_19 : decode cX8_put 19 = .ok (.invokevirtual 78, 3) := by decide +kernel
theorem dX8_put_22 : decode cX8_put 22 = .ok (.istore_n 3, 1) := by decide +kernel
theorem dX8_put_23 : decode cX8_put 23 = .ok (.iload_n 3, 1) := by decide +kernel
theorem dX8_put_24 : decode cX8_put 24 = .ok (.ifCond .ne 14, 3) := by decide +kernel
theorem dX8_put_27 : decode cX8_put 27 = .ok (.bipush (-10), 2) := by decide +kernel
theorem dX8_put_29 : decode cX8_put 29 = .ok (.aload_n 0, 1) := by decide +kernel
theorem dX8_put_30 : decode cX8_put 30 = .ok (.getfield 21, 3) := by decide +kernel
theorem dX8_put_33 : decode cX8_put 33 = .ok (.invokevirtual 81, 3) := by decide +kernel
theorem dX8_put_36 : decode cX8_put 36 = .ok (.isub, 1) := by decide +kernel
theorem dX8_put_37 : decode cX8_put 37 = .ok (.ireturn, 1) := by decide +kernel
theorem dX8_put_38 : decode cX8_put 38 = .ok (.aload_n 0, 1) := by decide +kernel
theorem dX8_put_39 : decode cX8_put 39 = .ok (.invokevirtual 84, 3) := by decide +kernel
theorem dX8_put_42 : decode cX8_put 42 = .ok (.aload_n 0, 1) := by decide +kernel
theorem dX8_put_43 : decode cX8_put 43 = .ok (.getfield 28, 3) := by decide +kernel
theorem dX8_put_46 : decode cX8_put 46 = .ok (.iload_n 1, 1) := by decide +kernel
theorem dX8_put_47 : decode cX8_put 47 = .ok (.iload_n 2, 1) := by decide +kernel
theorem dX8_put_48 : decode cX8_put 48 = .ok (.invokestatic 87, 3) := by decide +kernel
theorem dX8_put_51 : decode cX8_put 51 = .ok (.aload_n 0, 1) := by decide +kernel
theorem dX8_put_52 : decode cX8_put 52 = .ok (.getfield 21, 3) := by decide +kernel
theorem dX8_put_55 : decode cX8_put 55 = .ok (.getfield 91, 3) := by decide +kernel
theorem dX8_put_58 : decode cX8_put 58 = .ok (.invokevirtual 95, 3) := by decide +kernel
theorem dX8_put_61 : decode cX8_put 61 = .ok (.iload_n 3, 1) := by decide +kernel
theorem dX8_put_62 : decode cX8_put 62 = .ok (.ireturn, 1) := by decide +kernel
theorem dX8_empties_0 : decode cX8_empties 0 = .ok (.iload_n 1, 1) := by decide +kernel
theorem dX8_empties_1 : decode cX8_empties 1 = .ok (.iload_n 2, 1) := by decide +kernel
theorem dX8_empties_2 : decode cX8_empties 2 = .ok (.invokestatic 74, 3) := by decide +kernel
theorem dX8_empties_5 : decode cX8_empties 5 = .ok (.ifCond .ne 10, 3) := by decide +kernel
theorem dX8_empties_8 : decode cX8_empties 8 = .ok (.aload_n 0, 1) := by decide +kernel
theorem dX8_empties_9 : decode cX8_empties 9 = .ok (.bipush (-2), 2) := by decide +kernel
theorem dX8_empties_11 : decode cX8_empties 11 = .ok (.invokevirtual 59, 3) := by decide +kernel
theorem dX8_empties_14 : decode cX8_empties 14 = .ok (.ireturn, 1) := by decide +kernel
theorem dX8_empties_15 : decode cX8_empties 15 = .ok (.aload_n 0, 1) := by decide +kernel
theorem dX8_empties_16 : decode cX8_empties 16 = .ok (.invokevirtual 84, 3) := by decide +kernel
theorem dX8_empties_19 : decode cX8_empties 19 = .ok (.aload_n 0, 1) := by decide +kernel
theorem dX8_empties_20 : decode cX8_empties 20 = .ok (.getfield 28, 3) := by decide +kernel
theorem dX8_empties_23 : decode cX8_empties 23 = .ok (.iload_n 1, 1) := by decide +kernel
theorem dX8_empties_24 : decode cX8_empties 24 = .ok (.iload_n 2, 1) := by decide +kernel
theorem dX8_empties_25 : decode cX8_empties 25 = .ok (.invokestatic 87, 3) := by decide +kernel
theorem dX8_empties_28 : decode cX8_empties 28 = .ok (.invokevirtual 99, 3) := by decide +kernel
theorem dX8_empties_31 : decode cX8_empties 31 = .ok (.istore_n 3, 1) := by decide +kernel
theorem dX8_empties_32 : decode cX8_empties 32 = .ok (.aload_n 0, 1) := by decide +kernel
theorem dX8_empties_33 : decode cX8_empties 33 = .ok (.getfield 28, 3) := by decide +kernel
theorem dX8_empties_36 : decode cX8_empties 36 = .ok (.iload_n 1, 1) := by decide +kernel
theorem dX8_empties_37 : decode cX8_empties 37 = .ok (.iload_n 2, 1) := by decide +kernel
theorem dX8_empties_38 : decode cX8_empties 38 = .ok (.invokestatic 87, 3) := by decide +kernel
theorem dX8_empties_41 : decode cX8_empties 41 = .ok (.invokevirtual 102, 3) := by decide +kernel
theorem dX8_empties_44 : decode cX8_empties 44 = .ok (.iload_n 3, 1) := by decide +kernel
theorem dX8_empties_45 : decode cX8_empties 45 = .ok (.ireturn, 1) := by decide +kernel
theorem dX8_comes_0 : decode cX8_comes 0 = .ok (.iload_n 1, 1) := by decide +kernel
theorem dX8_comes_1 : decode cX8_comes 1 = .ok (.iconst 0, 1) := by decide +kernel
theorem dX8_comes_2 : decode cX8_comes 2 = .ok (.iconst 1, 1) := by decide +kernel
theorem dX8_comes_3 : decode cX8_comes 3 = .ok (.invokestatic 55, 3) := by decide +kernel
theorem dX8_comes_6 : decode cX8_comes 6 = .ok (.ifCond .eq 22, 3) := by decide +kernel
theorem dX8_comes_9 : decode cX8_comes 9 = .ok (.iload_n 2, 1) := by decide +kernel
theorem dX8_comes_10 : decode cX8_comes 10 = .ok (.iconst 0, 1) := by decide +kernel
theorem dX8_comes_11 : decode cX8_comes 11 = .ok (.iconst 5, 1) := by decide +kernel
theorem dX8_comes_12 : decode cX8_comes 12 = .ok (.invokestatic 55, 3) := by decide +kernel
theorem dX8_comes_15 : decode cX8_comes 15 = .ok (.ifCond .eq 13, 3) := by decide +kernel
theorem dX8_comes_18 : decode cX8_comes 18 = .ok (.iload_n 3, 1) := by decide +kernel
theorem dX8_comes_19 : decode cX8_comes 19 = .ok (.iconst 1, 1) := by decide +kernel
theorem dX8_comes_20 : decode cX8_comes 20 = .ok (.bipush 6, 2) := by decide +kernel
theorem dX8_comes_22 : decode cX8_comes 22 = .ok (.invokestatic 55, 3) := by decide +kernel
theorem dX8_comes_25 : decode cX8_comes 25 = .ok (.ifCond .ne 10, 3) := by decide +kernel
theorem dX8_comes_28 : decode cX8_comes 28 = .ok (.aload_n 0, 1) := by decide +kernel
theorem dX8_comes_29 : decode cX8_comes 29 = .ok (.bipush (-2), 2) := by decide +kernel
theorem dX8_comes_31 : decode cX8_comes 31 = .ok (.invokevirtual 59, 3) := by decide +kernel
theorem dX8_comes_34 : decode cX8_comes 34 = .ok (.ireturn, 1) := by decide +kernel
theorem dX8_comes_35 : decode cX8_comes 35 = .ok (.iload_n 1, 1) := by decide +kernel
theorem dX8_comes_36 : decode cX8_comes 36 = .ok (.invokestatic 105, 3) := by decide +kernel
theorem dX8_comes_39 : decode cX8_comes 39 = .ok (.istore 4, 2) := by decide +kernel
theorem dX8_comes_41 : decode cX8_comes 41 = .ok (.aload_n 0, 1) := by decide +kernel
theorem dX8_comes_42 : decode cX8_comes 42 = .ok (.getfield 28, 3) := by decide +kernel
theorem dX8_comes_45 : decode cX8_comes 45 = .ok (.iload 4, 2) := by decide +kernel
theorem dX8_comes_47 : decode cX8_comes 47 = .ok (.iload_n 2, 1) := by decide +kernel
theorem dX8_comes_48 : decode cX8_comes 48 = .ok (.iload_n 3, 1) := by decide +kernel
theorem dX8_comes_49 : decode cX8_comes 49 = .ok (.invokevirtual 108, 3) := by decide +kernel
theorem dX8_comes_52 : decode cX8_comes 52 = .ok (.ifCond .eq 10, 3) := by decide +kernel
theorem dX8_comes_55 : decode cX8_comes 55 = .ok (.aload_n 0, 1) := by decide +kernel
theorem dX8_comes_56 : decode cX8_comes 56 = .ok (.bipush (-3), 2) := by decide +kernel
theorem dX8_comes_58 : decode cX8_comes 58 = .ok (.invokevirtual 59, 3) := by decide +kernel
theorem dX8_comes_61 : decode cX8_comes 61 = .ok (.ireturn, 1) := by decide +kernel
theorem dX8_comes_62 : decode cX8_comes 62 = .ok (.aload_n 0, 1) := by decide +kernel
theorem dX8_comes_63 : decode cX8_comes 63 = .ok (.invokevirtual 84, 3) := by decide +kernel
theorem dX8_comes_66 : decode cX8_comes 66 = .ok (.aload_n 0, 1) := by decide +kernel
theorem dX8_comes_67 : decode cX8_comes 67 = .ok (.getfield 28, 3) := by decide +kernel
theorem dX8_comes_70 : decode cX8_comes 70 = .ok (.iload 4, 2) := by decide +kernel
theorem dX8_comes_72 : decode cX8_comes 72 = .ok (.iload_n 2, 1) := by decide +kernel
theorem dX8_comes_73 : decode cX8_comes 73 = .ok (.iload_n 3, 1) := by decide +kernel
theorem dX8_comes_74 : decode cX8_comes 74 = .ok (.invokevirtual 111, 3) := by decide +kernel
theorem dX8_comes_77 : decode cX8_comes 77 = .ok (.aload_n 0, 1) := by decide +kernel
theorem dX8_comes_78 : decode cX8_comes 78 = .ok (.getfield 28, 3) := by decide +kernel
theorem dX8_comes_81 : decode cX8_comes 81 = .ok (.invokevirtual 115, 3) := by decide +kernel
theorem dX8_comes_84 : decode cX8_comes 84 = .ok (.ireturn, 1) := by decide +kernel
theorem dX8_goes_0 : decode cX8_goes 0 = .ok (.iload_n 1, 1) := by decide +kernel
theorem dX8_goes_1 : decode cX8_goes 1 = .ok (.iconst 0, 1) := by decide +kernel
theorem dX8_goes_2 : decode cX8_goes 2 = .ok (.iconst 1, 1) := by decide +kernel
theorem dX8_goes_3 : decode cX8_goes 3 = .ok (.invokestatic 55, 3) := by decide +kernel
theorem dX8_goes_6 : decode cX8_goes 6 = .ok (.ifCond .eq 24, 3) := by decide +kernel
theorem dX8_goes_9 : decode cX8_goes 9 = .ok (.iload_n 2, 1) := by decide +kernel
theorem dX8_goes_10 : decode cX8_goes 10 = .ok (.iconst 0, 1) := by decide +kernel
theorem dX8_goes_11 : decode cX8_goes 11 = .ok (.iconst 5, 1) := by decide +kernel
theorem dX8_goes_12 : decode cX8_goes 12 = .ok (.invokestatic 55, 3) := by decide +kernel
theorem dX8_goes_15 : decode cX8_goes 15 = .ok (.ifCond .eq 15, 3) := by decide +kernel
theorem dX8_goes_18 : decode cX8_goes 18 = .ok (.iload_n 3, 1) := by decide +kernel
theorem dX8_goes_19 : decode cX8_goes 19 = .ok (.iconst 1, 1) := by decide +kernel
theorem dX8_goes_20 : decode cX8_goes 20 = .ok (.bipush 6, 2) := by decide +kernel
theorem dX8_goes_22 : decode cX8_goes 22 = .ok (.iload_n 2, 1) := by decide +kernel
theorem dX8_goes_23 : decode cX8_goes 23 = .ok (.isub, 1) := by decide +kernel
theorem dX8_goes_24 : decode cX8_goes 24 = .ok (.invokestatic 55, 3) := by decide +kernel
theorem dX8_goes_27 : decode cX8_goes 27 = .ok (.ifCond .ne 10, 3) := by decide +kernel
theorem dX8_goes_30 : decode cX8_goes 30 = .ok (.aload_n 0, 1) := by decide +kernel
theorem dX8_goes_31 : decode cX8_goes 31 = .ok (.bipush (-2), 2) := by decide +kernel
theorem dX8_goes_33 : decode cX8_goes 33 = .ok (.invokevirtual 59, 3) := by decide +kernel
theorem dX8_goes_36 : decode cX8_goes 36 = .ok (.ireturn, 1) := by decide +kernel
theorem dX8_goes_37 : decode cX8_goes 37 = .ok (.aload_n 0, 1) := by decide +kernel
theorem dX8_goes_38 : decode cX8_goes 38 = .ok (.invokevirtual 84, 3) := by decide +kernel
theorem dX8_goes_41 : decode cX8_goes 41 = .ok (.aload_n 0, 1) := by decide +kernel
theorem dX8_goes_42 : decode cX8_goes 42 = .ok (.getfield 28, 3) := by decide +kernel
theorem dX8_goes_45 : decode cX8_goes 45 = .ok (.iload_n 1, 1) := by decide +kernel
theorem dX8_goes_46 : decode cX8_goes 46 = .ok (.invokestatic 105, 3) := by decide +kernel
theorem dX8_goes_49 : decode cX8_goes 49 = .ok (.iload_n 2, 1) := by decide +kernel
theorem dX8_goes_50 : decode cX8_goes 50 = .ok (.iload_n 3, 1) := by decide +kernel
theorem dX8_goes_51 : decode cX8_goes 51 = .ok (.invokevirtual 118, 3) := by decide +kernel
theorem dX8_goes_54 : decode cX8_goes 54 = .ok (.aload_n 0, 1) := by decide +kernel
theorem dX8_goes_55 : decode cX8_goes 55 = .ok (.getfield 28, 3) := by decide +kernel
theorem dX8_goes_58 : decode cX8_goes 58 = .ok (.invokevirtual 115, 3) := by decide +kernel
theorem dX8_goes_61 : decode cX8_goes 61 = .ok (.ireturn, 1) := by decide +kernel
theorem dX8_moves_0 : decode cX8_moves 0 = .ok (.iload_n 1, 1) := by decide +kernel
theorem dX8_moves_1 : decode cX8_moves 1 = .ok (.iload_n 2, 1) := by decide +kernel
theorem dX8_moves_2 : decode cX8_moves 2 = .ok (.iload_n 3, 1) := by decide +kernel
theorem dX8_moves_3 : decode cX8_moves 3 = .ok (.iload 4, 2) := by decide +kernel
theorem dX8_moves_5 : decode cX8_moves 5 = .ok (.invokestatic 121, 3) := by decide +kernel
theorem dX8_moves_8 : decode cX8_moves 8 = .ok (.ifCond .eq 16, 3) := by decide +kernel
theorem dX8_moves_11 : decode cX8_moves 11 = .ok (.iload 5, 2) := by decide +kernel
theorem dX8_moves_13 : decode cX8_moves 13 = .ok (.iload 6, 2) := by decide +kernel
theorem dX8_moves_15 : decode cX8_moves 15 = .ok (.iload_n 3, 1) := by decide +kernel
theorem dX8_moves_16 : decode cX8_moves 16 = .ok (.iload 4, 2) := by decide +kernel
theorem dX8_moves_18 : decode cX8_moves 18 = .ok (.invokestatic 121, 3) := by decide +kernel
theorem dX8_moves_21 : decode cX8_moves 21 = .ok (.ifCond .ne 10, 3) := by decide +kernel
theorem dX8_moves_24 : decode cX8_moves 24 = .ok (.aload_n 0, 1) := by decide +kernel
theorem dX8_moves_25 : decode cX8_moves 25 = .ok (.bipush (-2), 2) := by decide +kernel
theorem dX8_moves_27 : decode cX8_moves 27 = .ok (.invokevirtual 59, 3) := by decide +kernel
theorem dX8_moves_30 : decode cX8_moves 30 = .ok (.ireturn, 1) := by decide +kernel
theorem dX8_moves_31 : decode cX8_moves 31 = .ok (.aload_n 0, 1) := by decide +kernel
theorem dX8_moves_32 : decode cX8_moves 32 = .ok (.invokevirtual 84, 3) := by decide +kernel
theorem dX8_moves_35 : decode cX8_moves 35 = .ok (.aload_n 0, 1) := by decide +kernel
theorem dX8_moves_36 : decode cX8_moves 36 = .ok (.getfield 28, 3) := by decide +kernel
theorem dX8_moves_39 : decode cX8_moves 39 = .ok (.new 125, 3) := by decide +kernel
theorem dX8_moves_42 : decode cX8_moves 42 = .ok (.dup, 1) := by decide +kernel
theorem dX8_moves_43 : decode cX8_moves 43 = .ok (.iload_n 1, 1) := by decide +kernel
theorem dX8_moves_44 : decode cX8_moves 44 = .ok (.iload_n 2, 1) := by decide +kernel
theorem dX8_moves_45 : decode cX8_moves 45 = .ok (.iload_n 3, 1) := by decide +kernel
theorem dX8_moves_46 : decode cX8_moves 46 = .ok (.iload 4, 2) := by decide +kernel
theorem dX8_moves_48 : decode cX8_moves 48 = .ok (.invokespecial 127, 3) := by decide +kernel
theorem dX8_moves_51 : decode cX8_moves 51 = .ok (.new 125, 3) := by decide +kernel
theorem dX8_moves_54 : decode cX8_moves 54 = .ok (.dup, 1) := by decide +kernel
theorem dX8_moves_55 : decode cX8_moves 55 = .ok (.iload 5, 2) := by decide +kernel
theorem dX8_moves_57 : decode cX8_moves 57 = .ok (.iload 6, 2) := by decide +kernel
theorem dX8_moves_59 : decode cX8_moves 59 = .ok (.iload_n 3, 1) := by decide +kernel
theorem dX8_moves_60 : decode cX8_moves 60 = .ok (.iload 4, 2) := by decide +kernel
theorem dX8_moves_62 : decode cX8_moves 62 = .ok (.invokespecial 127, 3) := by decide +kernel
theorem dX8_moves_65 : decode cX8_moves 65 = .ok (.invokevirtual 130, 3) := by decide +kernel
theorem dX8_moves_68 : decode cX8_moves 68 = .ok (.ireturn, 1) := by decide +kernel
theorem dX8_copies_0 : decode cX8_copies 0 = .ok (.iload_n 1, 1) := by decide +kernel
theorem dX8_copies_1 : decode cX8_copies 1 = .ok (.iload_n 2, 1) := by decide +kernel
theorem dX8_copies_2 : decode cX8_copies 2 = .ok (.iload_n 3, 1) := by decide +kernel
theorem dX8_copies_3 : decode cX8_copies 3 = .ok (.iload 4, 2) := by decide +kernel
theorem dX8_copies_5 : decode cX8_copies 5 = .ok (.invokestatic 121, 3) := by decide +kernel
theorem dX8_copies_8 : decode cX8_copies 8 = .ok (.ifCond .eq 16, 3) := by decide +kernel
theorem dX8_copies_11 : decode cX8_copies 11 = .ok (.iload 5, 2) := by decide +kernel
theorem dX8_copies_13 : decode cX8_copies 13 = .ok (.iload 6, 2) := by decide +kernel
theorem dX8_copies_15 : decode cX8_copies 15 = .ok (.iload_n 3, 1) := by decide +kernel
theorem dX8_copies_16 : decode cX8_copies 16 = .ok (.iload 4, 2) := by decide +kernel
theorem dX8_copies_18 : decode cX8_copies 18 = .ok (.invokestatic 121, 3) := by decide +kernel
theorem dX8_copies_21 : decode cX8_copies 21 = .ok (.ifCond .ne 10, 3) := by decide +kernel
theorem dX8_copies_24 : decode cX8_copies 24 = .ok (.aload_n 0, 1) := by decide +kernel
theorem dX8_copies_25 : decode cX8_copies 25 = .ok (.bipush (-2), 2) := by decide +kernel
theorem dX8_copies_27 : decode cX8_copies 27 = .ok (.invokevirtual 59, 3) := by decide +kernel
theorem dX8_copies_30 : decode cX8_copies 30 = .ok (.ireturn, 1) := by decide +kernel
theorem dX8_copies_31 : decode cX8_copies 31 = .ok (.aload_n 0, 1) := by decide +kernel
theorem dX8_copies_32 : decode cX8_copies 32 = .ok (.invokevirtual 84, 3) := by decide +kernel
theorem dX8_copies_35 : decode cX8_copies 35 = .ok (.aload_n 0, 1) := by decide +kernel
theorem dX8_copies_36 : decode cX8_copies 36 = .ok (.getfield 28, 3) := by decide +kernel
theorem dX8_copies_39 : decode cX8_copies 39 = .ok (.new 125, 3) := by decide +kernel
theorem dX8_copies_42 : decode cX8_copies 42 = .ok (.dup, 1) := by decide +kernel
theorem dX8_copies_43 : decode cX8_copies 43 = .ok (.iload_n 1, 1) := by decide +kernel
theorem dX8_copies_44 : decode cX8_copies 44 = .ok (.iload_n 2, 1) := by decide +kernel
theorem dX8_copies_45 : decode cX8_copies 45 = .ok (.iload_n 3, 1) := by decide +kernel
theorem dX8_copies_46 : decode cX8_copies 46 = .ok (.iload 4, 2) := by decide +kernel
theorem dX8_copies_48 : decode cX8_copies 48 = .ok (.invokespecial 127, 3) := by decide +kernel
theorem dX8_copies_51 : decode cX8_copies 51 = .ok (.new 125, 3) := by decide +kernel
theorem dX8_copies_54 : decode cX8_copies 54 = .ok (.dup, 1) := by decide +kernel
theorem dX8_copies_55 : decode cX8_copies 55 = .ok (.iload 5, 2) := by decide +kernel
theorem dX8_copies_57 : decode cX8_copies 57 = .ok (.iload 6, 2) := by decide +kernel
theorem dX8_copies_59 : decode cX8_copies 59 = .ok (.iload_n 3, 1) := by decide +kernel
theorem dX8_copies_60 : decode cX8_copies 60 = .ok (.iload 4, 2) := by decide +kernel
theorem dX8_copies_62 : decode cX8_copies 62 = .ok (.invokespecial 127, 3) := by decide +kernel
theorem dX8_copies_65 : decode cX8_copies 65 = .ok (.invokevirtual 134, 3) := by decide +kernel
theorem dX8_copies_68 : decode cX8_copies 68 = .ok (.ireturn, 1) := by decide +kernel
theorem dX8_back_0 : decode cX8_back 0 = .ok (.aload_n 0, 1) := by decide +kernel
theorem dX8_back_1 : decode cX8_back 1 = .ok (.getfield 35, 3) := by decide +kernel
theorem dX8_back_4 : decode cX8_back 4 = .ok (.getfield 137, 3) := by decide +kernel
theorem dX8_back_7 : decode cX8_back 7 = .ok (.ifCond .ne 10, 3) := by decide +kernel
theorem dX8_back_10 : decode cX8_back 10 = .ok (.aload_n 0, 1) := by decide +kernel
theorem dX8_back_11 : decode cX8_back 11 = .ok (.bipush (-3), 2) := by decide +kernel
theorem dX8_back_13 : decode cX8_back 13 = .ok (.invokevirtual 59, 3) := by decide +kernel
theorem dX8_back_16 : decode cX8_back 16 = .ok (.ireturn, 1) := by decide +kernel
theorem dX8_back_17 : decode cX8_back 17 = .ok (.aload_n 0, 1) := by decide +kernel
theorem dX8_back_18 : decode cX8_back 18 = .ok (.getfield 35, 3) := by decide +kernel
theorem dX8_back_21 : decode cX8_back 21 = .ok (.aload_n 0, 1) := by decide +kernel
theorem dX8_back_22 : decode cX8_back 22 = .ok (.getfield 28, 3) := by decide +kernel
theorem dX8_back_25 : decode cX8_back 25 = .ok (.invokevirtual 141, 3) := by decide +kernel
theorem dX8_back_28 : decode cX8_back 28 = .ok (.aload_n 0, 1) := by decide +kernel
theorem dX8_back_29 : decode cX8_back 29 = .ok (.getfield 44, 3) := by decide +kernel
theorem dX8_back_32 : decode cX8_back 32 = .ok (.invokevirtual 144, 3) := by decide +kernel
theorem dX8_back_35 : decode cX8_back 35 = .ok (.aload_n 0, 1) := by decide +kernel
theorem dX8_back_36 : decode cX8_back 36 = .ok (.getfield 35, 3) := by decide +kernel
theorem dX8_back_39 : decode cX8_back 39 = .ok (.getfield 137, 3) := by decide +kernel
theorem dX8_back_42 : decode cX8_back 42 = .ok (.ireturn, 1) := by decide +kernel
theorem dX8_terms_0 : decode cX8_terms 0 = .ok (.iload_n 1, 1) := by decide +kernel
theorem dX8_terms_1 : decode cX8_terms 1 = .ok (.iload_n 2, 1) := by decide +kernel
theorem dX8_terms_2 : decode cX8_terms 2 = .ok (.invokestatic 74, 3) := by decide +kernel
theorem dX8_terms_5 : decode cX8_terms 5 = .ok (.ifCond .ne 10, 3) := by decide +kernel
theorem dX8_terms_8 : decode cX8_terms 8 = .ok (.aload_n 0, 1) := by decide +kernel
theorem dX8_terms_9 : decode cX8_terms 9 = .ok (.bipush (-2), 2) := by decide +kernel
theorem dX8_terms_11 : decode cX8_terms 11 = .ok (.invokevirtual 59, 3) := by decide +kernel
theorem dX8_terms_14 : decode cX8_terms 14 = .ok (.ireturn, 1) := by decide +kernel
theorem dX8_terms_15 : decode cX8_terms 15 = .ok (.aload_n 0, 1) := by decide +kernel
theorem dX8_terms_16 : decode cX8_terms 16 = .ok (.getfield 28, 3) := by decide +kernel
theorem dX8_terms_19 : decode cX8_terms 19 = .ok (.iload_n 1, 1) := by decide +kernel
theorem dX8_terms_20 : decode cX8_terms 20 = .ok (.iload_n 2, 1) := by decide +kernel
theorem dX8_terms_21 : decode cX8_terms 21 = .ok (.invokestatic 87, 3) := by decide +kernel
theorem dX8_terms_24 : decode cX8_terms 24 = .ok (.invokevirtual 99, 3) := by decide +kernel
theorem dX8_terms_27 : decode cX8_terms 27 = .ok (.ireturn, 1) := by decide +kernel
theorem dX8_term_0 : decode cX8_term 0 = .ok (.iload_n 1, 1) := by decide +kernel
theorem dX8_term_1 : decode cX8_term 1 = .ok (.iload_n 2, 1) := by decide +kernel
theorem dX8_term_2 : decode cX8_term 2 = .ok (.invokestatic 74, 3) := by decide +kernel
theorem dX8_term_5 : decode cX8_term 5 = .ok (.ifCond .eq 13, 3) := by decide +kernel
theorem dX8_term_8 : decode cX8_term 8 = .ok (.iload 4, 2) := by decide +kernel
theorem dX8_term_10 : decode cX8_term 10 = .ok (.iconst 0, 1) := by decide +kernel
theorem dX8_term_11 : decode cX8_term 11 = .ok (.iconst 5, 1) := by decide +kernel
theorem dX8_term_12 : decode cX8_term 12 = .ok (.invokestatic 55, 3) := by decide +kernel
theorem dX8_term_15 : decode cX8_term 15 = .ok (.ifCond .ne 10, 3) := by decide +kernel
theorem dX8_term_18 : decode cX8_term 18 = .ok (.aload_n 0, 1) := by decide +kernel
theorem dX8_term_19 : decode cX8_term 19 = .ok (.bipush (-2), 2) := by decide +kernel
theorem dX8_term_21 : decode cX8_term 21 = .ok (.invokevirtual 59, 3) := by decide +kernel
theorem dX8_term_24 : decode cX8_term 24 = .ok (.ireturn, 1) := by decide +kernel
theorem dX8_term_25 : decode cX8_term 25 = .ok (.aload_n 0, 1) := by decide +kernel
theorem dX8_term_26 : decode cX8_term 26 = .ok (.getfield 28, 3) := by decide +kernel
theorem dX8_term_29 : decode cX8_term 29 = .ok (.iload_n 1, 1) := by decide +kernel
theorem dX8_term_30 : decode cX8_term 30 = .ok (.iload_n 2, 1) := by decide +kernel
theorem dX8_term_31 : decode cX8_term 31 = .ok (.invokestatic 87, 3) := by decide +kernel
theorem dX8_term_34 : decode cX8_term 34 = .ok (.iload_n 3, 1) := by decide +kernel
theorem dX8_term_35 : decode cX8_term 35 = .ok (.invokevirtual 147, 3) := by decide +kernel
theorem dX8_term_38 : decode cX8_term 38 = .ok (.istore 5, 2) := by decide +kernel
theorem dX8_term_40 : decode cX8_term 40 = .ok (.iload 5, 2) := by decide +kernel
theorem dX8_term_42 : decode cX8_term 42 = .ok (.ifCond .ne 10, 3) := by decide +kernel
theorem dX8_term_45 : decode cX8_term 45 = .ok (.aload_n 0, 1) := by decide +kernel
theorem dX8_term_46 : decode cX8_term 46 = .ok (.bipush (-2), 2) := by decide +kernel
theorem dX8_term_48 : decode cX8_term 48 = .ok (.invokevirtual 59, 3) := by decide +kernel
theorem dX8_term_51 : decode cX8_term 51 = .ok (.ireturn, 1) := by decide +kernel
theorem dX8_term_52 : decode cX8_term 52 = .ok (.iload 4, 2) := by decide +kernel
theorem dX8_term_54 : decode cX8_term 54 = .ok (.ifCond .ne 11, 3) := by decide +kernel
theorem dX8_term_57 : decode cX8_term 57 = .ok (.iload 5, 2) := by decide +kernel
theorem dX8_term_59 : decode cX8_term 59 = .ok (.invokestatic 150, 3) := by decide +kernel
theorem dX8_term_62 : decode cX8_term 62 = .ok (.iconst 1, 1) := by decide +kernel
theorem dX8_term_63 : decode cX8_term 63 = .ok (.isub, 1) := by decide +kernel
theorem dX8_term_64 : decode cX8_term 64 = .ok (.ireturn, 1) := by decide +kernel
theorem dX8_term_65 : decode cX8_term 65 = .ok (.iload 4, 2) := by decide +kernel
theorem dX8_term_67 : decode cX8_term 67 = .ok (.iconst 5, 1) := by decide +kernel
theorem dX8_term_68 : decode cX8_term 68 = .ok (.if_icmp .ne 9, 3) := by decide +kernel
theorem dX8_term_71 : decode cX8_term 71 = .ok (.iload 5, 2) := by decide +kernel
theorem dX8_term_73 : decode cX8_term 73 = .ok (.invokestatic 155, 3) := by decide +kernel
theorem dX8_term_76 : decode cX8_term 76 = .ok (.ireturn, 1) := by decide +kernel
theorem dX8_term_77 : decode cX8_term 77 = .ok (.iload 5, 2) := by decide +kernel
theorem dX8_term_79 : decode cX8_term 79 = .ok (.invokestatic 150, 3) := by decide +kernel
theorem dX8_term_82 : decode cX8_term 82 = .ok (.iconst 1, 1) := by decide +kernel
theorem dX8_term_83 : decode cX8_term 83 = .ok (.if_icmp .ne 19, 3) := by decide +kernel
theorem dX8_term_86 : decode cX8_term 86 = .ok (.iload 4, 2) := by decide +kernel
theorem dX8_term_88 : decode cX8_term 88 = .ok (.iconst 1, 1) := by decide +kernel
theorem dX8_term_89 : decode cX8_term 89 = .ok (.if_icmp .ne 11, 3) := by decide +kernel
theorem dX8_term_92 : decode cX8_term 92 = .ok (.iload 5, 2) := by decide +kernel
theorem dX8_term_94 : decode cX8_term 94 = .ok (.invokestatic 158, 3) := by decide +kernel
theorem dX8_term_97 : decode cX8_term 97 = .ok (.goto 4, 3) := by decide +kernel
theorem dX8_term_100 : decode cX8_term 100 = .ok (.iconst 0, 1) := by decide +kernel
theorem dX8_term_101 : decode cX8_term 101 = .ok (.ireturn, 1) := by decide +kernel
theorem dX8_term_102 : decode cX8_term 102 = .ok (.iload 5, 2) := by decide +kernel
theorem dX8_term_104 : decode cX8_term 104 = .ok (.iload 4, 2) := by decide +kernel
theorem dX8_term_106 : decode cX8_term 106 = .ok (.iconst 1, 1) := by decide +kernel
theorem dX8_term_107 : decode cX8_term 107 = .ok (.isub, 1) := by decide +kernel
theorem dX8_term_108 : decode cX8_term 108 = .ok (.invokestatic 161, 3) := by decide +kernel
theorem dX8_term_111 : decode cX8_term 111 = .ok (.ireturn, 1) := by decide +kernel
theorem dX8_shown_0 : decode cX8_shown 0 = .ok (.iload_n 1, 1) := by decide +kernel
theorem dX8_shown_1 : decode cX8_shown 1 = .ok (.iload_n 2, 1) := by decide +kernel
theorem dX8_shown_2 : decode cX8_shown 2 = .ok (.invokestatic 74, 3) := by decide +kernel
theorem dX8_shown_5 : decode cX8_shown 5 = .ok (.ifCond .eq 7, 3) := by decide +kernel
theorem dX8_shown_8 : decode cX8_shown 8 = .ok (.iload_n 3, 1) := by decide +kernel
theorem dX8_shown_9 : decode cX8_shown 9 = .ok (.ifCond .ge 10, 3) := by decide +kernel
theorem dX8_shown_12 : decode cX8_shown 12 = .ok (.aload_n 0, 1) := by decide +kernel
theorem dX8_shown_13 : decode cX8_shown 13 = .ok (.bipush (-2), 2) := by decide +kernel
theorem dX8_shown_15 : decode cX8_shown 15 = .ok (.invokevirtual 59, 3) := by decide +kernel
theorem dX8_shown_18 : decode cX8_shown 18 = .ok (.ireturn, 1) := by decide +kernel
theorem dX8_shown_19 : decode cX8_shown 19 = .ok (.aload_n 0, 1) := by decide +kernel
theorem dX8_shown_20 : decode cX8_shown 20 = .ok (.getfield 51, 3) := by decide +kernel
theorem dX8_shown_23 : decode cX8_shown 23 = .ok (.aload_n 0, 1) := by decide +kernel
theorem dX8_shown_24 : decode cX8_shown 24 = .ok (.getfield 28, 3) := by decide +kernel
theorem dX8_shown_27 : decode cX8_shown 27 = .ok (.iload_n 1, 1) := by decide +kernel
theorem dX8_shown_28 : decode cX8_shown 28 = .ok (.iload_n 2, 1) := by decide +kernel
theorem dX8_shown_29 : decode cX8_shown 29 = .ok (.invokestatic 87, 3) := by decide +kernel
theorem dX8_shown_32 : decode cX8_shown 32 = .ok (.invokevirtual 164, 3) := by decide +kernel
theorem dX8_shown_35 : decode cX8_shown 35 = .ok (.aload_n 0, 1) := by decide +kernel
theorem dX8_shown_36 : decode cX8_shown 36 = .ok (.getfield 51, 3) := by decide +kernel
theorem dX8_shown_39 : decode cX8_shown 39 = .ok (.iload_n 3, 1) := by decide +kernel
theorem dX8_shown_40 : decode cX8_shown 40 = .ok (.invokevirtual 168, 3) := by decide +kernel
theorem dX8_shown_43 : decode cX8_shown 43 = .ok (.ireturn, 1) := by decide +kernel
theorem dX8_value_0 : decode cX8_value 0 = .ok (.iload_n 1, 1) := by decide +kernel
theorem dX8_value_1 : decode cX8_value 1 = .ok (.iload_n 2, 1) := by decide +kernel
theorem dX8_value_2 : decode cX8_value 2 = .ok (.invokestatic 74, 3) := by decide +kernel
theorem dX8_value_5 : decode cX8_value 5 = .ok (.ifCond .ne 10, 3) := by decide +kernel
theorem dX8_value_8 : decode cX8_value 8 = .ok (.aload_n 0, 1) := by decide +kernel
theorem dX8_value_9 : decode cX8_value 9 = .ok (.bipush (-2), 2) := by decide +kernel
theorem dX8_value_11 : decode cX8_value 11 = .ok (.invokevirtual 59, 3) := by decide +kernel
theorem dX8_value_14 : decode cX8_value 14 = .ok (.ireturn, 1) := by decide +kernel
theorem dX8_value_15 : decode cX8_value 15 = .ok (.iload_n 1, 1) := by decide +kernel
theorem dX8_value_16 : decode cX8_value 16 = .ok (.iload_n 2, 1) := by decide +kernel
theorem dX8_value_17 : decode cX8_value 17 = .ok (.invokestatic 87, 3) := by decide +kernel
theorem dX8_value_20 : decode cX8_value 20 = .ok (.istore_n 3, 1) := by decide +kernel
theorem dX8_value_21 : decode cX8_value 21 = .ok (.aload_n 0, 1) := by decide +kernel
theorem dX8_value_22 : decode cX8_value 22 = .ok (.getfield 44, 3) := by decide +kernel
theorem dX8_value_25 : decode cX8_value 25 = .ok (.iload_n 3, 1) := by decide +kernel
theorem dX8_value_26 : decode cX8_value 26 = .ok (.invokevirtual 171, 3) := by decide +kernel
theorem dX8_value_29 : decode cX8_value 29 = .ok (.ifCond .eq 18, 3) := by decide +kernel
theorem dX8_value_32 : decode cX8_value 32 = .ok (.bipush (-10), 2) := by decide +kernel
theorem dX8_value_34 : decode cX8_value 34 = .ok (.aload_n 0, 1) := by decide +kernel
theorem dX8_value_35 : decode cX8_value 35 = .ok (.getfield 44, 3) := by decide +kernel
theorem dX8_value_38 : decode cX8_value 38 = .ok (.getfield 175, 3) := by decide +kernel
theorem dX8_value_41 : decode cX8_value 41 = .ok (.iload_n 3, 1) := by decide +kernel
theorem dX8_value_42 : decode cX8_value 42 = .ok (.iaload, 1) := by decide +kernel
theorem dX8_value_43 : decode cX8_value 43 = .ok (.isub, 1) := by decide +kernel
theorem dX8_value_44 : decode cX8_value 44 = .ok (.goto 12, 3) := by decide +kernel
theorem dX8_value_47 : decode cX8_value 47 = .ok (.aload_n 0, 1) := by decide +kernel
theorem dX8_value_48 : decode cX8_value 48 = .ok (.getfield 44, 3) := by decide +kernel
theorem dX8_value_51 : decode cX8_value 51 = .ok (.getfield 178, 3) := by decide +kernel
theorem dX8_value_54 : decode cX8_value 54 = .ok (.iload_n 3, 1) := by decide +kernel
theorem dX8_value_55 : decode cX8_value 55 = .ok (.iaload, 1) := by decide +kernel
theorem dX8_value_56 : decode cX8_value 56 = .ok (.ireturn, 1) := by decide +kernel
theorem dX8_why_0 : decode cX8_why 0 = .ok (.iload_n 1, 1) := by decide +kernel
theorem dX8_why_1 : decode cX8_why 1 = .ok (.iload_n 2, 1) := by decide +kernel
theorem dX8_why_2 : decode cX8_why 2 = .ok (.invokestatic 74, 3) := by decide +kernel
theorem dX8_why_5 : decode cX8_why 5 = .ok (.ifCond .ne 10, 3) := by decide +kernel
theorem dX8_why_8 : decode cX8_why 8 = .ok (.aload_n 0, 1) := by decide +kernel
theorem dX8_why_9 : decode cX8_why 9 = .ok (.bipush (-2), 2) := by decide +kernel
theorem dX8_why_11 : decode cX8_why 11 = .ok (.invokevirtual 59, 3) := by decide +kernel
theorem dX8_why_14 : decode cX8_why 14 = .ok (.ireturn, 1) := by decide +kernel
theorem dX8_why_15 : decode cX8_why 15 = .ok (.iload_n 1, 1) := by decide +kernel
theorem dX8_why_16 : decode cX8_why 16 = .ok (.iload_n 2, 1) := by decide +kernel
theorem dX8_why_17 : decode cX8_why 17 = .ok (.invokestatic 87, 3) := by decide +kernel
theorem dX8_why_20 : decode cX8_why 20 = .ok (.istore_n 3, 1) := by decide +kernel
theorem dX8_why_21 : decode cX8_why 21 = .ok (.aload_n 0, 1) := by decide +kernel
theorem dX8_why_22 : decode cX8_why 22 = .ok (.getfield 44, 3) := by decide +kernel
theorem dX8_why_25 : decode cX8_why 25 = .ok (.iload_n 3, 1) := by decide +kernel
theorem dX8_why_26 : decode cX8_why 26 = .ok (.invokevirtual 171, 3) := by decide +kernel
theorem dX8_why_29 : decode cX8_why 29 = .ok (.ifCond .ne 5, 3) := by decide +kernel
theorem dX8_why_32 : decode cX8_why 32 = .ok (.iconst (-1), 1) := by decide +kernel
theorem dX8_why_33 : decode cX8_why 33 = .ok (.ireturn, 1) := by decide +kernel
theorem dX8_why_34 : decode cX8_why 34 = .ok (.aload_n 0, 1) := by decide +kernel
theorem dX8_why_35 : decode cX8_why 35 = .ok (.getfield 44, 3) := by decide +kernel
theorem dX8_why_38 : decode cX8_why 38 = .ok (.getfield 181, 3) := by decide +kernel
theorem dX8_why_41 : decode cX8_why 41 = .ok (.iload_n 3, 1) := by decide +kernel
theorem dX8_why_42 : decode cX8_why 42 = .ok (.iaload, 1) := by decide +kernel
theorem dX8_why_43 : decode cX8_why 43 = .ok (.istore 4, 2) := by decide +kernel
theorem dX8_why_45 : decode cX8_why 45 = .ok (.bipush 10, 2) := by decide +kernel
theorem dX8_why_47 : decode cX8_why 47 = .ok (.iload 4, 2) := by decide +kernel
theorem dX8_why_49 : decode cX8_why 49 = .ok (.invokestatic 184, 3) := by decide +kernel
theorem dX8_why_52 : decode cX8_why 52 = .ok (.imul, 1) := by decide +kernel
theorem dX8_why_53 : decode cX8_why 53 = .ok (.iload 4, 2) := by decide +kernel
theorem dX8_why_55 : decode cX8_why 55 = .ok (.invokestatic 187, 3) := by decide +kernel
theorem dX8_why_58 : decode cX8_why 58 = .ok (.iadd, 1) := by decide +kernel
theorem dX8_why_59 : decode cX8_why 59 = .ok (.ireturn, 1) := by decide +kernel
theorem dX8_deep_0 : decode cX8_deep 0 = .ok (.iload_n 1, 1) := by decide +kernel
theorem dX8_deep_1 : decode cX8_deep 1 = .ok (.iload_n 2, 1) := by decide +kernel
theorem dX8_deep_2 : decode cX8_deep 2 = .ok (.invokestatic 74, 3) := by decide +kernel
theorem dX8_deep_5 : decode cX8_deep 5 = .ok (.ifCond .ne 10, 3) := by decide +kernel
theorem dX8_deep_8 : decode cX8_deep 8 = .ok (.aload_n 0, 1) := by decide +kernel
theorem dX8_deep_9 : decode cX8_deep 9 = .ok (.bipush (-2), 2) := by decide +kernel
theorem dX8_deep_11 : decode cX8_deep 11 = .ok (.invokevirtual 59, 3) := by decide +kernel
theorem dX8_deep_14 : decode cX8_deep 14 = .ok (.ireturn, 1) := by decide +kernel
theorem dX8_deep_15 : decode cX8_deep 15 = .ok (.iload_n 1, 1) := by decide +kernel
theorem dX8_deep_16 : decode cX8_deep 16 = .ok (.iload_n 2, 1) := by decide +kernel
theorem dX8_deep_17 : decode cX8_deep 17 = .ok (.invokestatic 87, 3) := by decide +kernel
theorem dX8_deep_20 : decode cX8_deep 20 = .ok (.istore_n 3, 1) := by decide +kernel
theorem dX8_deep_21 : decode cX8_deep 21 = .ok (.aload_n 0, 1) := by decide +kernel
theorem dX8_deep_22 : decode cX8_deep 22 = .ok (.getfield 44, 3) := by decide +kernel
theorem dX8_deep_25 : decode cX8_deep 25 = .ok (.iload_n 3, 1) := by decide +kernel
theorem dX8_deep_26 : decode cX8_deep 26 = .ok (.invokevirtual 171, 3) := by decide +kernel
theorem dX8_deep_29 : decode cX8_deep 29 = .ok (.ifCond .eq 15, 3) := by decide +kernel
theorem dX8_deep_32 : decode cX8_deep 32 = .ok (.aload_n 0, 1) := by decide +kernel
theorem dX8_deep_33 : decode cX8_deep 33 = .ok (.getfield 44, 3) := by decide +kernel
theorem dX8_deep_36 : decode cX8_deep 36 = .ok (.getfield 190, 3) := by decide +kernel
theorem dX8_deep_39 : decode cX8_deep 39 = .ok (.iload_n 3, 1) := by decide +kernel
theorem dX8_deep_40 : decode cX8_deep 40 = .ok (.iaload, 1) := by decide +kernel
theorem dX8_deep_41 : decode cX8_deep 41 = .ok (.goto 4, 3) := by decide +kernel
theorem dX8_deep_44 : decode cX8_deep 44 = .ok (.iconst (-1), 1) := by decide +kernel
theorem dX8_deep_45 : decode cX8_deep 45 = .ok (.ireturn, 1) := by decide +kernel
theorem dX8_users_0 : decode cX8_users 0 = .ok (.iload_n 1, 1) := by decide +kernel
theorem dX8_users_1 : decode cX8_users 1 = .ok (.iload_n 2, 1) := by decide +kernel
theorem dX8_users_2 : decode cX8_users 2 = .ok (.invokestatic 74, 3) := by decide +kernel
theorem dX8_users_5 : decode cX8_users 5 = .ok (.ifCond .ne 10, 3) := by decide +kernel
theorem dX8_users_8 : decode cX8_users 8 = .ok (.aload_n 0, 1) := by decide +kernel
theorem dX8_users_9 : decode cX8_users 9 = .ok (.bipush (-2), 2) := by decide +kernel
theorem dX8_users_11 : decode cX8_users 11 = .ok (.invokevirtual 59, 3) := by decide +kernel
theorem dX8_users_14 : decode cX8_users 14 = .ok (.ireturn, 1) := by decide +kernel
theorem dX8_users_15 : decode cX8_users 15 = .ok (.aload_n 0, 1) := by decide +kernel
theorem dX8_users_16 : decode cX8_users 16 = .ok (.getfield 28, 3) := by decide +kernel
theorem dX8_users_19 : decode cX8_users 19 = .ok (.iload_n 1, 1) := by decide +kernel
theorem dX8_users_20 : decode cX8_users 20 = .ok (.iload_n 2, 1) := by decide +kernel
theorem dX8_users_21 : decode cX8_users 21 = .ok (.invokevirtual 193, 3) := by decide +kernel
theorem dX8_users_24 : decode cX8_users 24 = .ok (.ireturn, 1) := by decide +kernel
theorem dX8_count_0 : decode cX8_count 0 = .ok (.iload_n 1, 1) := by decide +kernel
theorem dX8_count_1 : decode cX8_count 1 = .ok (.tableswitch 63 0 3 #[31, 39, 47, 55], 31) := by decide +kernel
theorem dX8_count_32 : decode cX8_count 32 = .ok (.aload_n 0, 1) := by decide +kernel
theorem dX8_count_33 : decode cX8_count 33 = .ok (.getfield 28, 3) := by decide +kernel
theorem dX8_count_36 : decode cX8_count 36 = .ok (.invokevirtual 115, 3) := by decide +kernel
theorem dX8_count_39 : decode cX8_count 39 = .ok (.ireturn, 1) := by decide +kernel
theorem dX8_count_40 : decode cX8_count 40 = .ok (.aload_n 0, 1) := by decide +kernel
theorem dX8_count_41 : decode cX8_count 41 = .ok (.getfield 28, 3) := by decide +kernel
theorem dX8_count_44 : decode cX8_count 44 = .ok (.invokevirtual 196, 3) := by decide +kernel
theorem dX8_count_47 : decode cX8_count 47 = .ok (.ireturn, 1) := by decide +kernel
theorem dX8_count_48 : decode cX8_count 48 = .ok (.aload_n 0, 1) := by decide +kernel
theorem dX8_count_49 : decode cX8_count 49 = .ok (.getfield 28, 3) := by decide +kernel
theorem dX8_count_52 : decode cX8_count 52 = .ok (.invokevirtual 199, 3) := by decide +kernel
theorem dX8_count_55 : decode cX8_count 55 = .ok (.ireturn, 1) := by decide +kernel
theorem dX8_count_56 : decode cX8_count 56 = .ok (.aload_n 0, 1) := by decide +kernel
theorem dX8_count_57 : decode cX8_count 57 = .ok (.getfield 44, 3) := by decide +kernel
theorem dX8_count_60 : decode cX8_count 60 = .ok (.invokevirtual 202, 3) := by decide +kernel
theorem dX8_count_63 : decode cX8_count 63 = .ok (.ireturn, 1) := by decide +kernel
theorem dX8_count_64 : decode cX8_count 64 = .ok (.aload_n 0, 1) := by decide +kernel
theorem dX8_count_65 : decode cX8_count 65 = .ok (.bipush (-2), 2) := by decide +kernel
theorem dX8_count_67 : decode cX8_count 67 = .ok (.invokevirtual 59, 3) := by decide +kernel
theorem dX8_count_70 : decode cX8_count 70 = .ok (.ireturn, 1) := by decide +kernel
theorem dX8_told_0 : decode cX8_told 0 = .ok (.iload_n 1, 1) := by decide +kernel
theorem dX8_told_1 : decode cX8_told 1 = .ok (.tableswitch 66 0 4 #[35, 40, 45, 50, 58], 35) := by decide +kernel
theorem dX8_told_36 : decode cX8_told 36 = .ok (.aload_n 0, 1) := by decide +kernel
theorem dX8_told_37 : decode cX8_told 37 = .ok (.getfield 205, 3) := by decide +kernel
theorem dX8_told_40 : decode cX8_told 40 = .ok (.ireturn, 1) := by decide +kernel
theorem dX8_told_41 : decode cX8_told 41 = .ok (.aload_n 0, 1) := by decide +kernel
theorem dX8_told_42 : decode cX8_told 42 = .ok (.getfield 208, 3) := by decide +kernel
theorem dX8_told_45 : decode cX8_told 45 = .ok (.ireturn, 1) := by decide +kernel
theorem dX8_told_46 : decode cX8_told 46 = .ok (.aload_n 0, 1) := by decide +kernel
theorem dX8_told_47 : decode cX8_told 47 = .ok (.getfield 211, 3) := by decide +kernel
theorem dX8_told_50 : decode cX8_told 50 = .ok (.ireturn, 1) := by decide +kernel
theorem dX8_told_51 : decode cX8_told 51 = .ok (.aload_n 0, 1) := by decide +kernel
theorem dX8_told_52 : decode cX8_told 52 = .ok (.getfield 12, 3) := by decide +kernel
theorem dX8_told_55 : decode cX8_told 55 = .ok (.getfield 214, 3) := by decide +kernel
theorem dX8_told_58 : decode cX8_told 58 = .ok (.ireturn, 1) := by decide +kernel
theorem dX8_told_59 : decode cX8_told 59 = .ok (.aload_n 0, 1) := by decide +kernel
theorem dX8_told_60 : decode cX8_told 60 = .ok (.getfield 35, 3) := by decide +kernel
theorem dX8_told_63 : decode cX8_told 63 = .ok (.getfield 137, 3) := by decide +kernel
theorem dX8_told_66 : decode cX8_told 66 = .ok (.ireturn, 1) := by decide +kernel
theorem dX8_told_67 : decode cX8_told 67 = .ok (.aload_n 0, 1) := by decide +kernel
theorem dX8_told_68 : decode cX8_told 68 = .ok (.bipush (-2), 2) := by decide +kernel
theorem dX8_told_70 : decode cX8_told 70 = .ok (.invokevirtual 59, 3) := by decide +kernel
theorem dX8_told_73 : decode cX8_told 73 = .ok (.ireturn, 1) := by decide +kernel
theorem dX8_digest_0 : decode cX8_digest 0 = .ok (.ldc2_w 217, 3) := by decide +kernel
theorem dX8_digest_3 : decode cX8_digest 3 = .ok (.lstore_n 1, 1) := by decide +kernel
theorem dX8_digest_4 : decode cX8_digest 4 = .ok (.iconst 0, 1) := by decide +kernel
theorem dX8_digest_5 : decode cX8_digest 5 = .ok (.istore_n 3, 1) := by decide +kernel
theorem dX8_digest_6 : decode cX8_digest 6 = .ok (.iload_n 3, 1) := by decide +kernel
theorem dX8_digest_7 : decode cX8_digest 7 = .ok (.iconst 4, 1) := by decide +kernel
theorem dX8_digest_8 : decode cX8_digest 8 = .ok (.if_icmp .gt 22, 3) := by decide +kernel
theorem dX8_digest_11 : decode cX8_digest 11 = .ok (.ldc2_w 219, 3) := by decide +kernel
theorem dX8_digest_14 : decode cX8_digest 14 = .ok (.lload_n 1, 1) := by decide +kernel
theorem dX8_digest_15 : decode cX8_digest 15 = .ok (.lmul, 1) := by decide +kernel
theorem dX8_digest_16 : decode cX8_digest 16 = .ok (.aload_n 0, 1) := by decide +kernel
theorem dX8_digest_17 : decode cX8_digest 17 = .ok (.iload_n 3, 1) := by decide +kernel
theorem dX8_digest_18 : decode cX8_digest 18 = .ok (.invokevirtual 221, 3) := by decide +kernel
theorem dX8_digest_21 : decode cX8_digest 21 = .ok (.i2l, 1) := by decide +kernel
theorem dX8_digest_22 : decode cX8_digest 22 = .ok (.ladd, 1) := by decide +kernel
theorem dX8_digest_23 : decode cX8_digest 23 = .ok (.lstore_n 1, 1) := by decide +kernel
theorem dX8_digest_24 : decode cX8_digest 24 = .ok (.iinc 3 1, 3) := by decide +kernel
theorem dX8_digest_27 : decode cX8_digest 27 = .ok (.goto (-21), 3) := by decide +kernel
theorem dX8_digest_30 : decode cX8_digest 30 = .ok (.iconst 0, 1) := by decide +kernel
theorem dX8_digest_31 : decode cX8_digest 31 = .ok (.istore_n 3, 1) := by decide +kernel
theorem dX8_digest_32 : decode cX8_digest 32 = .ok (.iload_n 3, 1) := by decide +kernel
theorem dX8_digest_33 : decode cX8_digest 33 = .ok (.iconst 3, 1) := by decide +kernel
theorem dX8_digest_34 : decode cX8_digest 34 = .ok (.if_icmp .gt 22, 3) := by decide +kernel
theorem dX8_digest_37 : decode cX8_digest 37 = .ok (.ldc2_w 219, 3) := by decide +kernel
theorem dX8_digest_40 : decode cX8_digest 40 = .ok (.lload_n 1, 1) := by decide +kernel
theorem dX8_digest_41 : decode cX8_digest 41 = .ok (.lmul, 1) := by decide +kernel
theorem dX8_digest_42 : decode cX8_digest 42 = .ok (.aload_n 0, 1) := by decide +kernel
theorem dX8_digest_43 : decode cX8_digest 43 = .ok (.iload_n 3, 1) := by decide +kernel
theorem dX8_digest_44 : decode cX8_digest 44 = .ok (.invokevirtual 224, 3) := by decide +kernel
theorem dX8_digest_47 : decode cX8_digest 47 = .ok (.i2l, 1) := by decide +kernel
theorem dX8_digest_48 : decode cX8_digest 48 = .ok (.ladd, 1) := by decide +kernel
theorem dX8_digest_49 : decode cX8_digest 49 = .ok (.lstore_n 1, 1) := by decide +kernel
theorem dX8_digest_50 : decode cX8_digest 50 = .ok (.iinc 3 1, 3) := by decide +kernel
theorem dX8_digest_53 : decode cX8_digest 53 = .ok (.goto (-21), 3) := by decide +kernel
theorem dX8_digest_56 : decode cX8_digest 56 = .ok (.iconst 0, 1) := by decide +kernel
theorem dX8_digest_57 : decode cX8_digest 57 = .ok (.istore_n 3, 1) := by decide +kernel
theorem dX8_digest_58 : decode cX8_digest 58 = .ok (.iload_n 3, 1) := by decide +kernel
theorem dX8_digest_59 : decode cX8_digest 59 = .ok (.bipush 36, 2) := by decide +kernel
theorem dX8_digest_61 : decode cX8_digest 61 = .ok (.if_icmp .ge 23, 3) := by decide +kernel
theorem dX8_digest_64 : decode cX8_digest 64 = .ok (.aload_n 0, 1) := by decide +kernel
theorem dX8_digest_65 : decode cX8_digest 65 = .ok (.lload_n 1, 1) := by decide +kernel
theorem dX8_digest_66 : decode cX8_digest 66 = .ok (.iload_n 3, 1) := by decide +kernel
theorem dX8_digest_67 : decode cX8_digest 67 = .ok (.invokestatic 184, 3) := by decide +kernel
theorem dX8_digest_70 : decode cX8_digest 70 = .ok (.iload_n 3, 1) := by decide +kernel
theorem dX8_digest_71 : decode cX8_digest 71 = .ok (.invokestatic 187, 3) := by decide +kernel
theorem dX8_digest_74 : decode cX8_digest 74 = .ok (.invokevirtual 227, 3) := by decide +kernel
theorem dX8_digest_77 : decode cX8_digest 77 = .ok (.lstore_n 1, 1) := by decide +kernel
theorem dX8_digest_78 : decode cX8_digest 78 = .ok (.iinc 3 1, 3) := by decide +kernel
theorem dX8_digest_81 : decode cX8_digest 81 = .ok (.goto (-23), 3) := by decide +kernel
theorem dX8_digest_84 : decode cX8_digest 84 = .ok (.lload_n 1, 1) := by decide +kernel
theorem dX8_digest_85 : decode cX8_digest 85 = .ok (.lreturn, 1) := by decide +kernel
theorem dX8_digestWith_0 : decode cX8_digestWith 0 = .ok (.aload_n 0, 1) := by decide +kernel
theorem dX8_digestWith_1 : decode cX8_digestWith 1 = .ok (.iload_n 3, 1) := by decide +kernel
theorem dX8_digestWith_2 : decode cX8_digestWith 2 = .ok (.iload 4, 2) := by decide +kernel
theorem dX8_digestWith_4 : decode cX8_digestWith 4 = .ok (.invokevirtual 231, 3) := by decide +kernel
theorem dX8_digestWith_7 : decode cX8_digestWith 7 = .ok (.istore 5, 2) := by decide +kernel
theorem dX8_digestWith_9 : decode cX8_digestWith 9 = .ok (.ldc2_w 219, 3) := by decide +kernel
theorem dX8_digestWith_12 : decode cX8_digestWith 12 = .ok (.lload_n 1, 1) := by decide +kernel
theorem dX8_digestWith_13 : decode cX8_digestWith 13 = .ok (.lmul, 1) := by decide +kernel
theorem dX8_digestWith_14 : decode cX8_digestWith 14 = .ok (.iload 5, 2) := by decide +kernel
theorem dX8_digestWith_16 : decode cX8_digestWith 16 = .ok (.i2l, 1) := by decide +kernel
theorem dX8_digestWith_17 : decode cX8_digestWith 17 = .ok (.ladd, 1) := by decide +kernel
theorem dX8_digestWith_18 : decode cX8_digestWith 18 = .ok (.lstore 6, 2) := by decide +kernel
theorem dX8_digestWith_20 : decode cX8_digestWith 20 = .ok (.iconst 0, 1) := by decide +kernel
theorem dX8_digestWith_21 : decode cX8_digestWith 21 = .ok (.istore 8, 2) := by decide +kernel
theorem dX8_digestWith_23 : decode cX8_digestWith 23 = .ok (.iload 8, 2) := by decide +kernel
theorem dX8_digestWith_25 : decode cX8_digestWith 25 = .ok (.iload 5, 2) := by decide +kernel
theorem dX8_digestWith_27 : decode cX8_digestWith 27 = .ok (.if_icmp .ge 45, 3) := by decide +kernel
theorem dX8_digestWith_30 : decode cX8_digestWith 30 = .ok (.iconst 0, 1) := by decide +kernel
theorem dX8_digestWith_31 : decode cX8_digestWith 31 = .ok (.istore 9, 2) := by decide +kernel
theorem dX8_digestWith_33 : decode cX8_digestWith 33 = .ok (.iload 9, 2) := by decide +kernel
theorem dX8_digestWith_35 : decode cX8_digestWith 35 = .ok (.iconst 5, 1) := by decide +kernel
theorem dX8_digestWith_36 : decode cX8_digestWith 36 = .ok (.if_icmp .gt 30, 3) := by decide +kernel
theorem dX8_digestWith_39 : decode cX8_digestWith 39 = .ok (.ldc2_w 219, 3) := by decide +kernel
theorem dX8_digestWith_42 : decode cX8_digestWith 42 = .ok (.lload 6, 2) := by decide +kernel
theorem dX8_digestWith_44 : decode cX8_digestWith 44 = .ok (.lmul, 1) := by decide +kernel
theorem dX8_digestWith_45 : decode cX8_digestWith 45 = .ok (.aload_n 0, 1) := by decide +kernel
theorem dX8_digestWith_46 : decode cX8_digestWith 46 = .ok (.iload_n 3, 1) := by decide +kernel
theorem dX8_digestWith_47 : decode cX8_digestWith 47 = .ok (.iload 4, 2) := by decide +kernel
theorem dX8_digestWith_49 : decode cX8_digestWith 49 = .ok (.iload 8, 2) := by decide +kernel
theorem dX8_digestWith_51 : decode cX8_digestWith 51 = .ok (.iload 9, 2) := by decide +kernel
theorem dX8_digestWith_53 : decode cX8_digestWith 53 = .ok (.invokevirtual 234, 3) := by decide +kernel
theorem dX8_digestWith_56 : decode cX8_digestWith 56 = .ok (.i2l, 1) := by decide +kernel
theorem dX8_digestWith_57 : decode cX8_digestWith 57 = .ok (.ladd, 1) := by decide +kernel
theorem dX8_digestWith_58 : decode cX8_digestWith 58 = .ok (.lstore 6, 2) := by decide +kernel
theorem dX8_digestWith_60 : decode cX8_digestWith 60 = .ok (.iinc 9 1, 3) := by decide +kernel
theorem dX8_digestWith_63 : decode cX8_digestWith 63 = .ok (.goto (-30), 3) := by decide +kernel
theorem dX8_digestWith_66 : decode cX8_digestWith 66 = .ok (.iinc 8 1, 3) := by decide +kernel
theorem dX8_digestWith_69 : decode cX8_digestWith 69 = .ok (.goto (-46), 3) := by decide +kernel
theorem dX8_digestWith_72 : decode cX8_digestWith 72 = .ok (.ldc2_w 219, 3) := by decide +kernel
theorem dX8_digestWith_75 : decode cX8_digestWith 75 = .ok (.lload 6, 2) := by decide +kernel
theorem dX8_digestWith_77 : decode cX8_digestWith 77 = .ok (.lmul, 1) := by decide +kernel
theorem dX8_digestWith_78 : decode cX8_digestWith 78 = .ok (.aload_n 0, 1) := by decide +kernel
theorem dX8_digestWith_79 : decode cX8_digestWith 79 = .ok (.iload_n 3, 1) := by decide +kernel
theorem dX8_digestWith_80 : decode cX8_digestWith 80 = .ok (.iload 4, 2) := by decide +kernel
theorem dX8_digestWith_82 : decode cX8_digestWith 82 = .ok (.invokevirtual 238, 3) := by decide +kernel
theorem dX8_digestWith_85 : decode cX8_digestWith 85 = .ok (.i2l, 1) := by decide +kernel
theorem dX8_digestWith_86 : decode cX8_digestWith 86 = .ok (.ladd, 1) := by decide +kernel
theorem dX8_digestWith_87 : decode cX8_digestWith 87 = .ok (.lstore 6, 2) := by decide +kernel
theorem dX8_digestWith_89 : decode cX8_digestWith 89 = .ok (.ldc2_w 219, 3) := by decide +kernel
theorem dX8_digestWith_92 : decode cX8_digestWith 92 = .ok (.lload 6, 2) := by decide +kernel
theorem dX8_digestWith_94 : decode cX8_digestWith 94 = .ok (.lmul, 1) := by decide +kernel
theorem dX8_digestWith_95 : decode cX8_digestWith 95 = .ok (.aload_n 0, 1) := by decide +kernel
theorem dX8_digestWith_96 : decode cX8_digestWith 96 = .ok (.iload_n 3, 1) := by decide +kernel
theorem dX8_digestWith_97 : decode cX8_digestWith 97 = .ok (.iload 4, 2) := by decide +kernel
theorem dX8_digestWith_99 : decode cX8_digestWith 99 = .ok (.invokevirtual 241, 3) := by decide +kernel
theorem dX8_digestWith_102 : decode cX8_digestWith 102 = .ok (.i2l, 1) := by decide +kernel
theorem dX8_digestWith_103 : decode cX8_digestWith 103 = .ok (.ladd, 1) := by decide +kernel
theorem dX8_digestWith_104 : decode cX8_digestWith 104 = .ok (.lreturn, 1) := by decide +kernel
theorem dX8_refused_0 : decode cX8_refused 0 = .ok (.iload_n 1, 1) := by decide +kernel
theorem dX8_refused_1 : decode cX8_refused 1 = .ok (.bipush (-2), 2) := by decide +kernel
theorem dX8_refused_3 : decode cX8_refused 3 = .ok (.if_icmp .ne 16, 3) := by decide +kernel
theorem dX8_refused_6 : decode cX8_refused 6 = .ok (.aload_n 0, 1) := by decide +kernel
theorem dX8_refused_7 : decode cX8_refused 7 = .ok (.dup, 1) := by decide +kernel
theorem dX8_refused_8 : decode cX8_refused 8 = .ok (.getfield 205, 3) := by decide +kernel
theorem dX8_refused_11 : decode cX8_refused 11 = .ok (.iconst 1, 1) := by decide +kernel
theorem dX8_refused_12 : decode cX8_refused 12 = .ok (.iadd, 1) := by decide +kernel
theorem dX8_refused_13 : decode cX8_refused 13 = .ok (.putfield 205, 3) := by decide +kernel
theorem dX8_refused_16 : decode cX8_refused 16 = .ok (.goto 32, 3) := by decide +kernel
theorem dX8_refused_19 : decode cX8_refused 19 = .ok (.iload_n 1, 1) := by decide +kernel
theorem dX8_refused_20 : decode cX8_refused 20 = .ok (.bipush (-3), 2) := by decide +kernel
theorem dX8_refused_22 : decode cX8_refused 22 = .ok (.if_icmp .ne 16, 3) := by decide +kernel
theorem dX8_refused_25 : decode cX8_refused 25 = .ok (.aload_n 0, 1) := by decide +kernel
theorem dX8_refused_26 : decode cX8_refused 26 = .ok (.dup, 1) := by decide +kernel
theorem dX8_refused_27 : decode cX8_refused 27 = .ok (.getfield 208, 3) := by decide +kernel
theorem dX8_refused_30 : decode cX8_refused 30 = .ok (.iconst 1, 1) := by decide +kernel
theorem dX8_refused_31 : decode cX8_refused 31 = .ok (.iadd, 1) := by decide +kernel
theorem dX8_refused_32 : decode cX8_refused 32 = .ok (.putfield 208, 3) := by decide +kernel
theorem dX8_refused_35 : decode cX8_refused 35 = .ok (.goto 13, 3) := by decide +kernel
theorem dX8_refused_38 : decode cX8_refused 38 = .ok (.aload_n 0, 1) := by decide +kernel
theorem dX8_refused_39 : decode cX8_refused 39 = .ok (.dup, 1) := by decide +kernel
theorem dX8_refused_40 : decode cX8_refused 40 = .ok (.getfield 211, 3) := by decide +kernel
theorem dX8_refused_43 : decode cX8_refused 43 = .ok (.iconst 1, 1) := by decide +kernel
theorem dX8_refused_44 : decode cX8_refused 44 = .ok (.iadd, 1) := by decide +kernel
theorem dX8_refused_45 : decode cX8_refused 45 = .ok (.putfield 211, 3) := by decide +kernel
theorem dX8_refused_48 : decode cX8_refused 48 = .ok (.iload_n 1, 1) := by decide +kernel
theorem dX8_refused_49 : decode cX8_refused 49 = .ok (.ireturn, 1) := by decide +kernel
theorem dX8_leaveState_0 : decode cX8_leaveState 0 = .ok (.aload_n 0, 1) := by decide +kernel
theorem dX8_leaveState_1 : decode cX8_leaveState 1 = .ok (.getfield 35, 3) := by decide +kernel
theorem dX8_leaveState_4 : decode cX8_leaveState 4 = .ok (.aload_n 0, 1) := by decide +kernel
theorem dX8_leaveState_5 : decode cX8_leaveState 5 = .ok (.getfield 28, 3) := by decide +kernel
theorem dX8_leaveState_8 : decode cX8_leaveState 8 = .ok (.invokevirtual 244, 3) := by decide +kernel
theorem dX8_leaveState_11 : decode cX8_leaveState 11 = .ok (.aload_n 0, 1) := by decide +kernel
theorem dX8_leaveState_12 : decode cX8_leaveState 12 = .ok (.getfield 44, 3) := by decide +kernel
theorem dX8_leaveState_15 : decode cX8_leaveState 15 = .ok (.invokevirtual 144, 3) := by decide +kernel
theorem dX8_leaveState_18 : decode cX8_leaveState 18 = .ok (.return_, 1) := by decide +kernel
theorem dX8_isWithin_0 : decode cX8_isWithin 0 = .ok (.iload_n 0, 1) := by decide +kernel
theorem dX8_isWithin_1 : decode cX8_isWithin 1 = .ok (.iload_n 1, 1) := by decide +kernel
theorem dX8_isWithin_2 : decode cX8_isWithin 2 = .ok (.if_icmp .lt 12, 3) := by decide +kernel
theorem dX8_isWithin_5 : decode cX8_isWithin 5 = .ok (.iload_n 0, 1) := by decide +kernel
theorem dX8_isWithin_6 : decode cX8_isWithin 6 = .ok (.iload_n 2, 1) := by decide +kernel
theorem dX8_isWithin_7 : decode cX8_isWithin 7 = .ok (.if_icmp .gt 7, 3) := by decide +kernel
theorem dX8_isWithin_10 : decode cX8_isWithin 10 = .ok (.iconst 1, 1) := by decide +kernel
theorem dX8_isWithin_11 : decode cX8_isWithin 11 = .ok (.goto 4, 3) := by decide +kernel
theorem dX8_isWithin_14 : decode cX8_isWithin 14 = .ok (.iconst 0, 1) := by decide +kernel
theorem dX8_isWithin_15 : decode cX8_isWithin 15 = .ok (.ireturn, 1) := by decide +kernel
theorem dX8_isPlace_0 : decode cX8_isPlace 0 = .ok (.iload_n 0, 1) := by decide +kernel
theorem dX8_isPlace_1 : decode cX8_isPlace 1 = .ok (.iconst 0, 1) := by decide +kernel
theorem dX8_isPlace_2 : decode cX8_isPlace 2 = .ok (.iconst 5, 1) := by decide +kernel
theorem dX8_isPlace_3 : decode cX8_isPlace 3 = .ok (.invokestatic 55, 3) := by decide +kernel
theorem dX8_isPlace_6 : decode cX8_isPlace 6 = .ok (.ifCond .eq 16, 3) := by decide +kernel
theorem dX8_isPlace_9 : decode cX8_isPlace 9 = .ok (.iload_n 1, 1) := by decide +kernel
theorem dX8_isPlace_10 : decode cX8_isPlace 10 = .ok (.iconst 0, 1) := by decide +kernel
theorem dX8_isPlace_11 : decode cX8_isPlace 11 = .ok (.iconst 5, 1) := by decide +kernel
theorem dX8_isPlace_12 : decode cX8_isPlace 12 = .ok (.invokestatic 55, 3) := by decide +kernel
theorem dX8_isPlace_15 : decode cX8_isPlace 15 = .ok (.ifCond .eq 7, 3) := by decide +kernel
theorem dX8_isPlace_18 : decode cX8_isPlace 18 = .ok (.iconst 1, 1) := by decide +kernel
theorem dX8_isPlace_19 : decode cX8_isPlace 19 = .ok (.goto 4, 3) := by decide +kernel
theorem dX8_isPlace_22 : decode cX8_isPlace 22 = .ok (.iconst 0, 1) := by decide +kernel
theorem dX8_isPlace_23 : decode cX8_isPlace 23 = .ok (.ireturn, 1) := by decide +kernel
theorem dX8_isArea_0 : decode cX8_isArea 0 = .ok (.iload_n 0, 1) := by decide +kernel
theorem dX8_isArea_1 : decode cX8_isArea 1 = .ok (.iload_n 1, 1) := by decide +kernel
theorem dX8_isArea_2 : decode cX8_isArea 2 = .ok (.invokestatic 74, 3) := by decide +kernel
theorem dX8_isArea_5 : decode cX8_isArea 5 = .ok (.ifCond .eq 31, 3) := by decide +kernel
theorem dX8_isArea_8 : decode cX8_isArea 8 = .ok (.iload_n 2, 1) := by decide +kernel
theorem dX8_isArea_9 : decode cX8_isArea 9 = .ok (.iconst 1, 1) := by decide +kernel
theorem dX8_isArea_10 : decode cX8_isArea 10 = .ok (.bipush 6, 2) := by decide +kernel
theorem dX8_isArea_12 : decode cX8_isArea 12 = .ok (.iload_n 0, 1) := by decide +kernel
theorem dX8_isArea_13 : decode cX8_isArea 13 = .ok (.isub, 1) := by decide +kernel
theorem dX8_isArea_14 : decode cX8_isArea 14 = .ok (.invokestatic 55, 3) := by decide +kernel
theorem dX8_isArea_17 : decode cX8_isArea 17 = .ok (.ifCond .eq 19, 3) := by decide +kernel
theorem dX8_isArea_20 : decode cX8_isArea 20 = .ok (.iload_n 3, 1) := by decide +kernel
theorem dX8_isArea_21 : decode cX8_isArea 21 = .ok (.iconst 1, 1) := by decide +kernel
theorem dX8_isArea_22 : decode cX8_isArea 22 = .ok (.bipush 6, 2) := by decide +kernel
theorem dX8_isArea_24 : decode cX8_isArea 24 = .ok (.iload_n 1, 1) := by decide +kernel
theorem dX8_isArea_25 : decode cX8_isArea 25 = .ok (.isub, 1) := by decide +kernel
theorem dX8_isArea_26 : decode cX8_isArea 26 = .ok (.invokestatic 55, 3) := by decide +kernel
theorem dX8_isArea_29 : decode cX8_isArea 29 = .ok (.ifCond .eq 7, 3) := by decide +kernel
theorem dX8_isArea_32 : decode cX8_isArea 32 = .ok (.iconst 1, 1) := by decide +kernel
theorem dX8_isArea_33 : decode cX8_isArea 33 = .ok (.goto 4, 3) := by decide +kernel
theorem dX8_isArea_36 : decode cX8_isArea 36 = .ok (.iconst 0, 1) := by decide +kernel
theorem dX8_isArea_37 : decode cX8_isArea 37 = .ok (.ireturn, 1) := by decide +kernel
theorem dX8_isCell_0 : decode cX8_isCell 0 = .ok (.iload_n 0, 1) := by decide +kernel
theorem dX8_isCell_1 : decode cX8_isCell 1 = .ok (.ifCond .lt 13, 3) := by decide +kernel
theorem dX8_isCell_4 : decode cX8_isCell 4 = .ok (.iload_n 0, 1) := by decide +kernel
theorem dX8_isCell_5 : decode cX8_isCell 5 = .ok (.bipush 36, 2) := by decide +kernel
theorem dX8_isCell_7 : decode cX8_isCell 7 = .ok (.if_icmp .ge 7, 3) := by decide +kernel
theorem dX8_isCell_10 : decode cX8_isCell 10 = .ok (.iconst 1, 1) := by decide +kernel
theorem dX8_isCell_11 : decode cX8_isCell 11 = .ok (.goto 4, 3) := by decide +kernel
theorem dX8_isCell_14 : decode cX8_isCell 14 = .ok (.iconst 0, 1) := by decide +kernel
theorem dX8_isCell_15 : decode cX8_isCell 15 = .ok (.ireturn, 1) := by decide +kernel
theorem dX8_cellAt_0 : decode cX8_cellAt 0 = .ok (.iload_n 1, 1) := by decide +kernel
theorem dX8_cellAt_1 : decode cX8_cellAt 1 = .ok (.bipush 6, 2) := by decide +kernel
theorem dX8_cellAt_3 : decode cX8_cellAt 3 = .ok (.imul, 1) := by decide +kernel
theorem dX8_cellAt_4 : decode cX8_cellAt 4 = .ok (.iload_n 0, 1) := by decide +kernel
theorem dX8_cellAt_5 : decode cX8_cellAt 5 = .ok (.iadd, 1) := by decide +kernel
theorem dX8_cellAt_6 : decode cX8_cellAt 6 = .ok (.ireturn, 1) := by decide +kernel
theorem dX8_columnOf_0 : decode cX8_columnOf 0 = .ok (.iload_n 0, 1) := by decide +kernel
theorem dX8_columnOf_1 : decode cX8_columnOf 1 = .ok (.bipush 6, 2) := by decide +kernel
theorem dX8_columnOf_3 : decode cX8_columnOf 3 = .ok (.irem, 1) := by decide +kernel
theorem dX8_columnOf_4 : decode cX8_columnOf 4 = .ok (.ireturn, 1) := by decide +kernel
theorem dX8_rowOf_0 : decode cX8_rowOf 0 = .ok (.iload_n 0, 1) := by decide +kernel
theorem dX8_rowOf_1 : decode cX8_rowOf 1 = .ok (.bipush 6, 2) := by decide +kernel
theorem dX8_rowOf_3 : decode cX8_rowOf 3 = .ok (.idiv, 1) := by decide +kernel
theorem dX8_rowOf_4 : decode cX8_rowOf 4 = .ok (.ireturn, 1) := by decide +kernel
theorem dX8_axisOf_0 : decode cX8_axisOf 0 = .ok (.iload_n 0, 1) := by decide +kernel
theorem dX8_axisOf_1 : decode cX8_axisOf 1 = .ok (.ifCond .ne 7, 3) := by decide +kernel
theorem dX8_axisOf_4 : decode cX8_axisOf 4 = .ok (.iconst 1, 1) := by decide +kernel
theorem dX8_axisOf_5 : decode cX8_axisOf 5 = .ok (.goto 4, 3) := by decide +kernel
theorem dX8_axisOf_8 : decode cX8_axisOf 8 = .ok (.iconst 0, 1) := by decide +kernel
theorem dX8_axisOf_9 : decode cX8_axisOf 9 = .ok (.ireturn, 1) := by decide +kernel
theorem dJ9_max_7cf53_0 : decode cJ9_max_7cf53 0 = .ok (.iload_n 0, 1) := by decide +kernel
theorem dJ9_max_7cf53_1 : decode cJ9_max_7cf53 1 = .ok (.iload_n 1, 1) := by decide +kernel
theorem dJ9_max_7cf53_2 : decode cJ9_max_7cf53 2 = .ok (.if_icmp .lt 7, 3) := by decide +kernel
theorem dJ9_max_7cf53_5 : decode cJ9_max_7cf53 5 = .ok (.iload_n 0, 1) := by decide +kernel
theorem dJ9_max_7cf53_6 : decode cJ9_max_7cf53 6 = .ok (.goto 4, 3) := by decide +kernel
theorem dJ9_max_7cf53_9 : decode cJ9_max_7cf53 9 = .ok (.iload_n 1, 1) := by decide +kernel
theorem dJ9_max_7cf53_10 : decode cJ9_max_7cf53 10 = .ok (.ireturn, 1) := by decide +kernel
theorem dJ9_min_7cf53_0 : decode cJ9_min_7cf53 0 = .ok (.iload_n 0, 1) := by decide +kernel
theorem dJ9_min_7cf53_1 : decode cJ9_min_7cf53 1 = .ok (.iload_n 1, 1) := by decide +kernel
theorem dJ9_min_7cf53_2 : decode cJ9_min_7cf53 2 = .ok (.if_icmp .gt 7, 3) := by decide +kernel
theorem dJ9_min_7cf53_5 : decode cJ9_min_7cf53 5 = .ok (.iload_n 0, 1) := by decide +kernel
theorem dJ9_min_7cf53_6 : decode cJ9_min_7cf53 6 = .ok (.goto 4, 3) := by decide +kernel
theorem dJ9_min_7cf53_9 : decode cJ9_min_7cf53 9 = .ok (.iload_n 1, 1) := by decide +kernel
theorem dJ9_min_7cf53_10 : decode cJ9_min_7cf53 10 = .ok (.ireturn, 1) := by decide +kernel
theorem dJ7_fill_53178_0 : decode cJ7_fill_53178 0 = .ok (.iconst 0, 1) := by decide +kernel
theorem dJ7_fill_53178_1 : decode cJ7_fill_53178 1 = .ok (.istore_n 2, 1) := by decide +kernel
theorem dJ7_fill_53178_2 : decode cJ7_fill_53178 2 = .ok (.aload_n 0, 1) := by decide +kernel
theorem dJ7_fill_53178_3 : decode cJ7_fill_53178 3 = .ok (.arraylength, 1) := by decide +kernel
theorem dJ7_fill_53178_4 : decode cJ7_fill_53178 4 = .ok (.istore_n 3, 1) := by decide +kernel
theorem dJ7_fill_53178_5 : decode cJ7_fill_53178 5 = .ok (.iload_n 2, 1) := by decide +kernel
theorem dJ7_fill_53178_6 : decode cJ7_fill_53178 6 = .ok (.iload_n 3, 1) := by decide +kernel
theorem dJ7_fill_53178_7 : decode cJ7_fill_53178 7 = .ok (.if_icmp .ge 13, 3) := by decide +kernel
theorem dJ7_fill_53178_10 : decode cJ7_fill_53178 10 = .ok (.aload_n 0, 1) := by decide +kernel
theorem dJ7_fill_53178_11 : decode cJ7_fill_53178 11 = .ok (.iload_n 2, 1) := by decide +kernel
theorem dJ7_fill_53178_12 : decode cJ7_fill_53178 12 = .ok (.iload_n 1, 1) := by decide +kernel
theorem dJ7_fill_53178_13 : decode cJ7_fill_53178 13 = .ok (.iastore, 1) := by decide +kernel
theorem dJ7_fill_53178_14 : decode cJ7_fill_53178 14 = .ok (.iinc 2 1, 3) := by decide +kernel
theorem dJ7_fill_53178_17 : decode cJ7_fill_53178 17 = .ok (.goto (-12), 3) := by decide +kernel
theorem dJ7_fill_53178_20 : decode cJ7_fill_53178 20 = .ok (.return_, 1) := by decide +kernel
end
section
theorem dX9_init_0 : decode cX9_init 0 = .ok (.aload_n 0, 1) := by decide +kernel
theorem dX9_init_1 : decode cX9_init 1 = .ok (.invokespecial 1, 3) := by decide +kernel
theorem dX9_init_4 : decode cX9_init 4 = .ok (.aload_n 0, 1) := by decide +kernel
theorem dX9_init_5 : decode cX9_init 5 = .ok (.sipush 900, 3) := by decide +kernel
theorem dX9_init_8 : decode cX9_init 8 = .ok (.newarray .int, 2) := by decide +kernel
theorem dX9_init_10 : decode cX9_init 10 = .ok (.putfield 7, 3) := by decide +kernel
theorem dX9_init_13 : decode cX9_init 13 = .ok (.aload_n 0, 1) := by decide +kernel
theorem dX9_init_14 : decode cX9_init 14 = .ok (.sipush 900, 3) := by decide +kernel
theorem dX9_init_17 : decode cX9_init 17 = .ok (.newarray .int, 2) := by decide +kernel
theorem dX9_init_19 : decode cX9_init 19 = .ok (.putfield 13, 3) := by decide +kernel
theorem dX9_init_22 : decode cX9_init 22 = .ok (.aload_n 0, 1) := by decide +kernel
theorem dX9_init_23 : decode cX9_init 23 = .ok (.sipush 5400, 3) := by decide +kernel
theorem dX9_init_26 : decode cX9_init 26 = .ok (.newarray .int, 2) := by decide +kernel
theorem dX9_init_28 : decode cX9_init 28 = .ok (.putfield 16, 3) := by decide +kernel
theorem dX9_init_31 : decode cX9_init 31 = .ok (.aload_n 0, 1) := by decide +kernel
theorem dX9_init_32 : decode cX9_init 32 = .ok (.iconst 3, 1) := by decide +kernel
theorem dX9_init_33 : decode cX9_init 33 = .ok (.newarray .int, 2) := by decide +kernel
theorem dX9_init_35 : decode cX9_init 35 = .ok (.putfield 19, 3) := by decide +kernel
theorem dX9_init_38 : decode cX9_init 38 = .ok (.aload_n 0, 1) := by decide +kernel
theorem dX9_init_39 : decode cX9_init 39 = .ok (.bipush 60, 2) := by decide +kernel
theorem dX9_init_41 : decode cX9_init 41 = .ok (.newarray .int, 2) := by decide +kernel
theorem dX9_init_43 : decode cX9_init 43 = .ok (.putfield 22, 3) := by decide +kernel
theorem dX9_init_46 : decode cX9_init 46 = .ok (.aload_n 0, 1) := by decide +kernel
theorem dX9_init_47 : decode cX9_init 47 = .ok (.bipush 25, 2) := by decide +kernel
theorem dX9_init_49 : decode cX9_init 49 = .ok (.newarray .int, 2) := by decide +kernel
theorem dX9_init_51 : decode cX9_init 51 = .ok (.putfield 25, 3) := by decide +kernel
theorem dX9_init_54 : decode cX9_init 54 = .ok (.aload_n 0, 1) := by decide +kernel
theorem dX9_init_55 : decode cX9_init 55 = .ok (.bipush 60, 2) := by decide +kernel
theorem dX9_init_57 : decode cX9_init 57 = .ok (.newarray .int, 2) := by decide +kernel
theorem dX9_init_59 : decode cX9_init 59 = .ok (.putfield 28, 3) := by decide +kernel
theorem dX9_init_62 : decode cX9_init 62 = .ok (.aload_n 0, 1) := by decide +kernel
theorem dX9_init_63 : decode cX9_init 63 = .ok (.bipush 36, 2) := by decide +kernel
theorem dX9_init_65 : decode cX9_init 65 = .ok (.newarray .int, 2) := by decide +kernel
theorem dX9_init_67 : decode cX9_init 67 = .ok (.putfield 31, 3) := by decide +kernel
theorem dX9_init_70 : decode cX9_init 70 = .ok (.aload_n 0, 1) := by decide +kernel
theorem dX9_init_71 : decode cX9_init 71 = .ok (.bipush 36, 2) := by decide +kernel
theorem dX9_init_73 : decode cX9_init 73 = .ok (.newarray .int, 2) := by decide +kernel
theorem dX9_init_75 : decode cX9_init 75 = .ok (.putfield 34, 3) := by decide +kernel
theorem dX9_init_78 : decode cX9_init 78 = .ok (.aload_n 0, 1) := by decide +kernel
theorem dX9_init_79 : decode cX9_init 79 = .ok (.bipush 36, 2) := by decide +kernel
theorem dX9_init_81 : decode cX9_init 81 = .ok (.newarray .int, 2) := by decide +kernel
theorem dX9_init_83 : decode cX9_init 83 = .ok (.putfield 37, 3) := by decide +kernel
theorem dX9_init_86 : decode cX9_init 86 = .ok (.aload_n 0, 1) := by decide +kernel
theorem dX9_init_87 : decode cX9_init 87 = .ok (.bipush 36, 2) := by decide +kernel
theorem dX9_init_89 : decode cX9_init 89 = .ok (.newarray .int, 2) := by decide +kernel
theorem dX9_init_91 : decode cX9_init 91 = .ok (.putfield 40, 3) := by decide +kernel
theorem dX9_init_94 : decode cX9_init 94 = .ok (.aload_n 0, 1) := by decide +kernel
theorem dX9_init_95 : decode cX9_init 95 = .ok (.bipush 36, 2) := by decide +kernel
theorem dX9_init_97 : decode cX9_init 97 = .ok (.newarray .int, 2) := by decide +kernel
theorem dX9_init_99 : decode cX9_init 99 = .ok (.putfield 43, 3) := by decide +kernel
theorem dX9_init_102 : decode cX9_init 102 = .ok (.aload_n 0, 1) := by decide +kernel
theorem dX9_init_103 : decode cX9_init 103 = .ok (.bipush 36, 2) := by decide +kernel
theorem dX9_init_105 : decode cX9_init 105 = .ok (.newarray .int, 2) := by decide +kernel
theorem dX9_init_107 : decode cX9_init 107 = .ok (.putfield 46, 3) := by decide +kernel
theorem dX9_init_110 : decode cX9_init 110 = .ok (.aload_n 0, 1) := by decide +kernel
theorem dX9_init_111 : decode cX9_init 111 = .ok (.getfield 7, 3) := by decide +kernel
theorem dX9_init_114 : decode cX9_init 114 = .ok (.iconst 0, 1) := by decide +kernel
theorem dX9_init_115 : decode cX9_init 115 = .ok (.iconst 0, 1) := by decide +kernel
theorem dX9_init_116 : decode cX9_init 116 = .ok (.iastore, 1) := by decide +kernel
theorem dX9_init_117 : decode cX9_init 117 = .ok (.return_, 1) := by decide +kernel
theorem dX9_in_0 : decode cX9_in 0 = .ok (.iload_n 0, 1) := by decide +kernel
theorem dX9_in_1 : decode cX9_in 1 = .ok (.iload_n 1, 1) := by decide +kernel
theorem dX9_in_2 : decode cX9_in 2 = .ok (.if_icmp .lt 12, 3) := by decide +kernel
theorem dX9_in_5 : decode cX9_in 5 = .ok (.iload_n 0, 1) := by decide +kernel
theorem dX9_in_6 : decode cX9_in 6 = .ok (.iload_n 2, 1) := by decide +kernel
theorem dX9_in_7 : decode cX9_in 7 = .ok (.if_icmp .gt 7, 3) := by decide +kernel
theorem dX9_in_10 : decode cX9_in 10 = .ok (.iconst 1, 1) := by decide +kernel
theorem dX9_in_11 : decode cX9_in 11 = .ok (.goto 4, 3) := by decide +kernel
theorem dX9_in_14 : decode cX9_in 14 = .ok (.iconst 0, 1) := by decide +kernel
theorem dX9_in_15 : decode cX9_in 15 = .ok (.ireturn, 1) := by decide +kernel
theorem dX9_bad_0 : decode cX9_bad 0 = .ok (.aload_n 0, 1) := by decide +kernel
theorem dX9_bad_1 : decode cX9_bad 1 = .ok (.getfield 19, 3) := by decide +kernel
theorem dX9_bad_4 : decode cX9_bad 4 = .ok (.iconst 0, 1) := by decide +kernel
theorem dX9_bad_5 : decode cX9_bad 5 = .ok (.dup2, 1) := by decide +kernel
theorem dX9_bad_6 : decode cX9_bad 6 = .ok (.iaload, 1) := by decide +kernel
theorem dX9_bad_7 : decode cX9_bad 7 = .ok (.iconst 1, 1) := by decide +kernel
theorem dX9_bad_8 : decode cX9_bad 8 = .ok (.iadd, 1) := by decide +kernel
theorem dX9_bad_9 : decode cX9_bad 9 = .ok (.iastore, 1) := by decide +kernel
theorem dX9_bad_10 : decode cX9_bad 10 = .ok (.bipush (-2), 2) := by decide +kernel
theorem dX9_bad_12 : decode cX9_bad 12 = .ok (.ireturn, 1) := by decide +kernel
theorem dX9_laysAside_0 : decode cX9_laysAside 0 = .ok (.iconst 0, 1) := by decide +kernel
theorem dX9_laysAside_1 : decode cX9_laysAside 1 = .ok (.istore_n 1, 1) := by decide +kernel
theorem dX9_laysAside_2 : decode cX9_laysAside 2 = .ok (.iload_n 1, 1) := by decide +kernel
theorem dX9_laysAside_3 : decode cX9_laysAside 3 = .ok (.sipush 900, 3) := by decide +kernel
theorem dX9_laysAside_6 : decode cX9_laysAside 6 = .ok (.if_icmp .ge 21, 3) := by decide +kernel
theorem dX9_laysAside_9 : decode cX9_laysAside 9 = .ok (.aload_n 0, 1) := by decide +kernel
theorem dX9_laysAside_10 : decode cX9_laysAside 10 = .ok (.getfield 13, 3) := by decide +kernel
theorem dX9_laysAside_13 : decode cX9_laysAside 13 = .ok (.iload_n 1, 1) := by decide +kernel
theorem dX9_laysAside_14 : decode cX9_laysAside 14 = .ok (.aload_n 0, 1) := by decide +kernel
theorem dX9_laysAside_15 : decode cX9_laysAside 15 = .ok (.getfield 7, 3) := by decide +kernel
theorem dX9_laysAside_18 : decode cX9_laysAside 18 = .ok (.iload_n 1, 1) := by decide +kernel
theorem dX9_laysAside_19 : decode cX9_laysAside 19 = .ok (.iaload, 1) := by decide +kernel
theorem dX9_laysAside_20 : decode cX9_laysAside 20 = .ok (.iastore, 1) := by decide +kernel
theorem dX9_laysAside_21 : decode cX9_laysAside 21 = .ok (.iinc 1 1, 3) := by decide +kernel
theorem dX9_laysAside_24 : decode cX9_laysAside 24 = .ok (.goto (-22), 3) := by decide +kernel
theorem dX9_laysAside_27 : decode cX9_laysAside 27 = .ok (.return_, 1) := by decide +kernel
theorem dX9_remembers_0 : decode cX9_remembers 0 = .ok (.aload_n 0, 1) := by decide +kernel
theorem dX9_remembers_1 : decode cX9_remembers 1 = .ok (.getfield 49, 3) := by decide +kernel
theorem dX9_remembers_4 : decode cX9_remembers 4 = .ok (.bipush 6, 2) := by decide +kernel
theorem dX9_remembers_6 : decode cX9_remembers 6 = .ok (.if_icmp .ne 44, 3) := by decide +kernel
theorem dX9_remembers_9 : decode cX9_remembers 9 = .ok (.iconst 0, 1) := by decide +kernel
theorem dX9_remembers_10 : decode cX9_remembers 10 = .ok (.istore_n 1, 1) := by decide +kernel
theorem dX9_remembers_11 : decode cX9_remembers 11 = .ok (.iload_n 1, 1) := by decide +kernel
theorem dX9_remembers_12 : decode cX9_remembers 12 = .ok (.sipush 4500, 3) := by decide +kernel
theorem dX9_remembers_15 : decode cX9_remembers 15 = .ok (.if_icmp .ge 25, 3) := by decide +kernel
theorem dX9_remembers_18 : decode cX9_remembers 18 = .ok (.aload_n 0, 1) := by decide +kernel
theorem dX9_remembers_19 : decode cX9_remembers 19 = .ok (.getfield 16, 3) := by decide +kernel
theorem dX9_remembers_22 : decode cX9_remembers 22 = .ok (.iload_n 1, 1) := by decide +kernel
theorem dX9_remembers_23 : decode cX9_remembers 23 = .ok (.aload_n 0, 1) := by decide +kernel
theorem dX9_remembers_24 : decode cX9_remembers 24 = .ok (.getfield 16, 3) := by decide +kernel
theorem dX9_remembers_27 : decode cX9_remembers 27 = .ok (.iload_n 1, 1) := by decide +kernel
theorem dX9_remembers_28 : decode cX9_remembers 28 = .ok (.sipush 900, 3) := by decide +kernel
theorem dX9_remembers_31 : decode cX9_remembers 31 = .ok (.iadd, 1) := by decide +kernel
theorem dX9_remembers_32 : decode cX9_remembers 32 = .ok (.iaload, 1) := by decide +kernel
theorem dX9_remembers_33 : decode cX9_remembers 33 = .ok (.iastore, 1) := by decide +kernel
theorem dX9_remembers_34 : decode cX9_remembers 34 = .ok (.iinc 1 1, 3) := by decide +kernel
theorem dX9_remembers_37 : decode cX9_remembers 37 = .ok (.goto (-26), 3) := by decide +kernel
theorem dX9_remembers_40 : decode cX9_remembers 40 = .ok (.aload_n 0, 1) := by decide +kernel
theorem dX9_remembers_41 : decode cX9_remembers 41 = .ok (.dup, 1) := by decide +kernel
theorem dX9_remembers_42 : decode cX9_remembers 42 = .ok (.getfield 49, 3) := by decide +kernel
theorem dX9_remembers_45 : decode cX9_remembers 45 = .ok (.iconst 1, 1) := by decide +kernel
theorem dX9_remembers_46 : decode cX9_remembers 46 = .ok (.isub, 1) := by decide +kernel
theorem dX9_remembers_47 : decode cX9_remembers 47 = .ok (.putfield 49, 3) := by decide +kernel
theorem dX9_remembers_50 : decode cX9_remembers 50 = .ok (.iconst 0, 1) := by decide +kernel
theorem dX9_remembers_51 : decode cX9_remembers 51 = .ok (.istore_n 1, 1) := by decide +kernel
theorem dX9_remembers_52 : decode cX9_remembers 52 = .ok (.iload_n 1, 1) := by decide +kernel
theorem dX9_remembers_53 : decode cX9_remembers 53 = .ok (.sipush 900, 3) := by decide +kernel
theorem dX9_remembers_56 : decode cX9_remembers 56 = .ok (.if_icmp .ge 30, 3) := by decide +kernel
theorem dX9_remembers_59 : decode cX9_remembers 59 = .ok (.aload_n 0, 1) := by decide +kernel
theorem dX9_remembers_60 : decode cX9_remembers 60 = .ok (.getfield 16, 3) := by decide +kernel
theorem dX9_remembers_63 : decode cX9_remembers 63 = .ok (.sipush 900, 3) := by decide +kernel
theorem dX9_remembers_66 : decode cX9_remembers 66 = .ok (.aload_n 0, 1) := by decide +kernel
theorem dX9_remembers_67 : decode cX9_remembers 67 = .ok (.getfield 49, 3) := by decide +kernel
theorem dX9_remembers_70 : decode cX9_remembers 70 = .ok (.imul, 1) := by decide +kernel
theorem dX9_remembers_71 : decode cX9_remembers 71 = .ok (.iload_n 1, 1) := by decide +kernel
theorem dX9_remembers_72 : decode cX9_remembers 72 = .ok (.iadd, 1) := by decide +kernel
theorem dX9_remembers_73 : decode cX9_remembers 73 = .ok (.aload_n 0, 1) := by decide +kernel
theorem dX9_remembers_74 : decode cX9_remembers 74 = .ok (.getfield 13, 3) := by decide +kernel
theorem dX9_remembers_77 : decode cX9_remembers 77 = .ok (.iload_n 1, 1) := by decide +kernel
theorem dX9_remembers_78 : decode cX9_remembers 78 = .ok (.iaload, 1) := by decide +kernel
theorem dX9_remembers_79 : decode cX9_remembers 79 = .ok (.iastore, 1) := by decide +kernel
theorem dX9_remembers_80 : decode cX9_remembers 80 = .ok (.iinc 1 1, 3) := by decide +kernel
theorem dX9_remembers_83 : decode cX9_remembers 83 = .ok (.goto (-31), 3) := by decide +kernel
theorem dX9_remembers_86 : decode cX9_remembers 86 = .ok (.aload_n 0, 1) := by decide +kernel
theorem dX9_remembers_87 : decode cX9_remembers 87 = .ok (.dup, 1) := by decide +kernel
theorem dX9_remembers_88 : decode cX9_remembers 88 = .ok (.getfield 49, 3) := by decide +kernel
theorem dX9_remembers_91 : decode cX9_remembers 91 = .ok (.iconst 1, 1) := by decide +kernel
theorem dX9_remembers_92 : decode cX9_remembers 92 = .ok (.iadd, 1) := by decide +kernel
theorem dX9_remembers_93 : decode cX9_remembers 93 = .ok (.putfield 49, 3) := by decide +kernel
theorem dX9_remembers_96 : decode cX9_remembers 96 = .ok (.return_, 1) := by decide +kernel
theorem dX9_back_0 : decode cX9_back 0 = .ok (.aload_n 0, 1) := by decide +kernel
theorem dX9_back_1 : decode cX9_back 1 = .ok (.getfield 49, 3) := by decide +kernel
theorem dX9_back_4 : decode cX9_back 4 = .ok (.ifCond .ne 16, 3) := by decide +kernel
theorem dX9_back_7 : decode cX9_back 7 = .ok (.aload_n 0, 1) := by decide +kernel
theorem dX9_back_8 : decode cX9_back 8 = .ok (.getfield 19, 3) := by decide +kernel
theorem dX9_back_11 : decode cX9_back 11 = .ok (.iconst 1, 1) := by decide +kernel
theorem dX9_back_12 : decode cX9_back 12 = .ok (.dup2, 1) := by decide +kernel
theorem dX9_back_13 : decode cX9_back 13 = .ok (.iaload, 1) := by decide +kernel
theorem dX9_back_14 : decode cX9_back 14 = .ok (.iconst 1, 1) := by decide +kernel
theorem dX9_back_15 : decode cX9_back 15 = .ok (.iadd, 1) := by decide +kernel
theorem dX9_back_16 : decode cX9_back 16 = .ok (.iastore, 1) := by decide +kernel
theorem dX9_back_17 : decode cX9_back 17 = .ok (.bipush (-3), 2) := by decide +kernel
theorem dX9_back_19 : decode cX9_back 19 = .ok (.ireturn, 1) := by decide +kernel
theorem dX9_back_20 : decode cX9_back 20 = .ok (.aload_n 0, 1) := by decide +kernel
theorem dX9_back_21 : decode cX9_back 21 = .ok (.dup, 1) := by decide +kernel
theorem dX9_back_22 : decode cX9_back 22 = .ok (.getfield 49, 3) := by decide +kernel
theorem dX9_back_25 : decode cX9_back 25 = .ok (.iconst 1, 1) := by decide +kernel
theorem dX9_back_26 : decode cX9_back 26 = .ok (.isub, 1) := by decide +kernel
theorem dX9_back_27 : decode cX9_back 27 = .ok (.putfield 49, 3) := by decide +kernel
theorem dX9_back_30 : decode cX9_back 30 = .ok (.iconst 0, 1) := by decide +kernel
theorem dX9_back_31 : decode cX9_back 31 = .ok (.istore_n 1, 1) := by decide +kernel
theorem dX9_back_32 : decode cX9_back 32 = .ok (.iload_n 1, 1) := by decide +kernel
theorem dX9_back_33 : decode cX9_back 33 = .ok (.sipush 900, 3) := by decide +kernel
theorem dX9_back_36 : decode cX9_back 36 = .ok (.if_icmp .ge 30, 3) := by decide +kernel
theorem dX9_back_39 : decode cX9_back 39 = .ok (.aload_n 0, 1) := by decide +kernel
theorem dX9_back_40 : decode cX9_back 40 = .ok (.getfield 7, 3) := by decide +kernel
theorem dX9_back_43 : decode cX9_back 43 = .ok (.iload_n 1, 1) := by decide +kernel
theorem dX9_back_44 : decode cX9_back 44 = .ok (.aload_n 0, 1) := by decide +kernel
theorem dX9_back_45 : decode cX9_back 45 = .ok (.getfield 16, 3) := by decide +kernel
theorem dX9_back_48 : decode cX9_back 48 = .ok (.sipush 900, 3) := by decide +kernel
theorem dX9_back_51 : decode cX9_back 51 = .ok (.aload_n 0, 1) := by decide +kernel
theorem dX9_back_52 : decode cX9_back 52 = .ok (.getfield 49, 3) := by decide +kernel
theorem dX9_back_55 : decode cX9_back 55 = .ok (.imul, 1) := by decide +kernel
theorem dX9_back_56 : decode cX9_back 56 = .ok (.iload_n 1, 1) := by decide +kernel
theorem dX9_back_57 : decode cX9_back 57 = .ok (.iadd, 1) := by decide +kernel
theorem dX9_back_58 : decode cX9_back 58 = .ok (.iaload, 1) := by decide +kernel
theorem dX9_back_59 : decode cX9_back 59 = .ok (.iastore, 1) := by decide +kernel
theorem dX9_back_60 : decode cX9_back 60 = .ok (.iinc 1 1, 3) := by decide +kernel
theorem dX9_back_63 : decode cX9_back 63 = .ok (.goto (-31), 3) := by decide +kernel
theorem dX9_back_66 : decode cX9_back 66 = .ok (.aload_n 0, 1) := by decide +kernel
theorem dX9_back_67 : decode cX9_back 67 = .ok (.getfield 49, 3) := by decide +kernel
theorem dX9_back_70 : decode cX9_back 70 = .ok (.ireturn, 1) := by decide +kernel
theorem dX9_isCell_0 : decode cX9_isCell 0 = .ok (.iload_n 0, 1) := by decide +kernel
theorem dX9_isCell_1 : decode cX9_isCell 1 = .ok (.iconst 0, 1) := by decide +kernel
theorem dX9_isCell_2 : decode cX9_isCell 2 = .ok (.iconst 5, 1) := by decide +kernel
theorem dX9_isCell_3 : decode cX9_isCell 3 = .ok (.invokestatic 53, 3) := by decide +kernel
theorem dX9_isCell_6 : decode cX9_isCell 6 = .ok (.ifCond .eq 16, 3) := by decide +kernel
theorem dX9_isCell_9 : decode cX9_isCell 9 = .ok (.iload_n 1, 1) := by decide +kernel
theorem dX9_isCell_10 : decode cX9_isCell 10 = .ok (.iconst 0, 1) := by decide +kernel
theorem dX9_isCell_11 : decode cX9_isCell 11 = .ok (.iconst 5, 1) := by decide +kernel
theorem dX9_isCell_12 : decode cX9_isCell 12 = .ok (.invokestatic 53, 3) := by decide +kernel
theorem dX9_isCell_15 : decode cX9_isCell 15 = .ok (.ifCond .eq 7, 3) := by decide +kernel
theorem dX9_isCell_18 : decode cX9_isCell 18 = .ok (.iconst 1, 1) := by decide +kernel
theorem dX9_isCell_19 : decode cX9_isCell 19 = .ok (.goto 4, 3) := by decide +kernel
theorem dX9_isCell_22 : decode cX9_isCell 22 = .ok (.iconst 0, 1) := by decide +kernel
theorem dX9_isCell_23 : decode cX9_isCell 23 = .ok (.ireturn, 1) := by decide +kernel
theorem dX9_placeOf_0 : decode cX9_placeOf 0 = .ok (.bipush 25, 2) := by decide +kernel
theorem dX9_placeOf_2 : decode cX9_placeOf 2 = .ok (.bipush 6, 2) := by decide +kernel
theorem dX9_placeOf_4 : decode cX9_placeOf 4 = .ok (.iload_n 1, 1) := by decide +kernel
theorem dX9_placeOf_5 : decode cX9_placeOf 5 = .ok (.imul, 1) := by decide +kernel
theorem dX9_placeOf_6 : decode cX9_placeOf 6 = .ok (.iload_n 0, 1) := by decide +kernel
theorem dX9_placeOf_7 : decode cX9_placeOf 7 = .ok (.iadd, 1) := by decide +kernel
theorem dX9_placeOf_8 : decode cX9_placeOf 8 = .ok (.imul, 1) := by decide +kernel
theorem dX9_placeOf_9 : decode cX9_placeOf 9 = .ok (.ireturn, 1) := by decide +kernel
theorem dX9_termPlace_0 : decode cX9_termPlace 0 = .ok (.iload_n 0, 1) := by decide +kernel
theorem dX9_termPlace_1 : decode cX9_termPlace 1 = .ok (.iconst 1, 1) := by decide +kernel
theorem dX9_termPlace_2 : decode cX9_termPlace 2 = .ok (.iadd, 1) := by decide +kernel
theorem dX9_termPlace_3 : decode cX9_termPlace 3 = .ok (.bipush 6, 2) := by decide +kernel
theorem dX9_termPlace_5 : decode cX9_termPlace 5 = .ok (.iload_n 1, 1) := by decide +kernel
theorem dX9_termPlace_6 : decode cX9_termPlace 6 = .ok (.imul, 1) := by decide +kernel
theorem dX9_termPlace_7 : decode cX9_termPlace 7 = .ok (.iadd, 1) := by decide +kernel
theorem dX9_termPlace_8 : decode cX9_termPlace 8 = .ok (.ireturn, 1) := by decide +kernel
theorem dX9_breaks_0 : decode cX9_breaks 0 = .ok (.iconst 0, 1) := by decide +kernel
theorem dX9_breaks_1 : decode cX9_breaks 1 = .ok (.istore_n 2, 1) := by decide +kernel
theorem dX9_breaks_2 : decode cX9_breaks 2 = .ok (.iload_n 2, 1) := by decide +kernel
theorem dX9_breaks_3 : decode cX9_breaks 3 = .ok (.bipush 6, 2) := by decide +kernel
theorem dX9_breaks_5 : decode cX9_breaks 5 = .ok (.if_icmp .ge 26, 3) := by decide +kernel
theorem dX9_breaks_8 : decode cX9_breaks 8 = .ok (.aload_n 0, 1) := by decide +kernel
theorem dX9_breaks_9 : decode cX9_breaks 9 = .ok (.getfield 7, 3) := by decide +kernel
theorem dX9_breaks_12 : decode cX9_breaks 12 = .ok (.iload_n 1, 1) := by decide +kernel
theorem dX9_breaks_13 : decode cX9_breaks 13 = .ok (.iload_n 2, 1) := by decide +kernel
theorem dX9_breaks_14 : decode cX9_breaks 14 = .ok (.iadd, 1) := by decide +kernel
theorem dX9_breaks_15 : decode cX9_breaks 15 = .ok (.iload_n 2, 1) := by decide +kernel
theorem dX9_breaks_16 : decode cX9_breaks 16 = .ok (.ifCond .ne 7, 3) := by decide +kernel
theorem dX9_breaks_19 : decode cX9_breaks 19 = .ok (.iconst 3, 1) := by decide +kernel
theorem dX9_breaks_20 : decode cX9_breaks 20 = .ok (.goto 4, 3) := by decide +kernel
theorem dX9_breaks_23 : decode cX9_breaks 23 = .ok (.iconst 0, 1) := by decide +kernel
theorem dX9_breaks_24 : decode cX9_breaks 24 = .ok (.iastore, 1) := by decide +kernel
theorem dX9_breaks_25 : decode cX9_breaks 25 = .ok (.iinc 2 1, 3) := by decide +kernel
theorem dX9_breaks_28 : decode cX9_breaks 28 = .ok (.goto (-26), 3) := by decide +kernel
theorem dX9_breaks_31 : decode cX9_breaks 31 = .ok (.return_, 1) := by decide +kernel
theorem dX9_empty_0 : decode cX9_empty 0 = .ok (.iconst 0, 1) := by decide +kernel
theorem dX9_empty_1 : decode cX9_empty 1 = .ok (.istore_n 2, 1) := by decide +kernel
theorem dX9_empty_2 : decode cX9_empty 2 = .ok (.iload_n 2, 1) := by decide +kernel
theorem dX9_empty_3 : decode cX9_empty 3 = .ok (.bipush 25, 2) := by decide +kernel
theorem dX9_empty_5 : decode cX9_empty 5 = .ok (.if_icmp .ge 18, 3) := by decide +kernel
theorem dX9_empty_8 : decode cX9_empty 8 = .ok (.aload_n 0, 1) := by decide +kernel
theorem dX9_empty_9 : decode cX9_empty 9 = .ok (.getfield 7, 3) := by decide +kernel
theorem dX9_empty_12 : decode cX9_empty 12 = .ok (.iload_n 1, 1) := by decide +kernel
theorem dX9_empty_13 : decode cX9_empty 13 = .ok (.iload_n 2, 1) := by decide +kernel
theorem dX9_empty_14 : decode cX9_empty 14 = .ok (.iadd, 1) := by decide +kernel
theorem dX9_empty_15 : decode cX9_empty 15 = .ok (.iconst 0, 1) := by decide +kernel
theorem dX9_empty_16 : decode cX9_empty 16 = .ok (.iastore, 1) := by decide +kernel
theorem dX9_empty_17 : decode cX9_empty 17 = .ok (.iinc 2 1, 3) := by decide +kernel
theorem dX9_empty_20 : decode cX9_empty 20 = .ok (.goto (-18), 3) := by decide +kernel
theorem dX9_empty_23 : decode cX9_empty 23 = .ok (.return_, 1) := by decide +kernel
theorem dX9_takes_0 : decode cX9_takes 0 = .ok (.iconst 0, 1) := by decide +kernel
theorem dX9_takes_1 : decode cX9_takes 1 = .ok (.istore_n 3, 1) := by decide +kernel
theorem dX9_takes_2 : decode cX9_takes 2 = .ok (.iload_n 3, 1) := by decide +kernel
theorem dX9_takes_3 : decode cX9_takes 3 = .ok (.bipush 25, 2) := by decide +kernel
theorem dX9_takes_5 : decode cX9_takes 5 = .ok (.if_icmp .ge 25, 3) := by decide +kernel
theorem dX9_takes_8 : decode cX9_takes 8 = .ok (.aload_n 0, 1) := by decide +kernel
theorem dX9_takes_9 : decode cX9_takes 9 = .ok (.getfield 7, 3) := by decide +kernel
theorem dX9_takes_12 : decode cX9_takes 12 = .ok (.iload_n 1, 1) := by decide +kernel
theorem dX9_takes_13 : decode cX9_takes 13 = .ok (.iload_n 3, 1) := by decide +kernel
theorem dX9_takes_14 : decode cX9_takes 14 = .ok (.iadd, 1) := by decide +kernel
theorem dX9_takes_15 : decode cX9_takes 15 = .ok (.aload_n 0, 1) := by decide +kernel
theorem dX9_takes_16 : decode cX9_takes 16 = .ok (.getfield 13, 3) := by decide +kernel
theorem dX9_takes_19 : decode cX9_takes 19 = .ok (.iload_n 2, 1) := by decide +kernel
theorem dX9_takes_20 : decode cX9_takes 20 = .ok (.iload_n 3, 1) := by decide +kernel
theorem dX9_takes_21 : decode cX9_takes 21 = .ok (.iadd, 1) := by decide +kernel
theorem dX9_takes_22 : decode cX9_takes 22 = .ok (.iaload, 1) := by decide +kernel
theorem dX9_takes_23 : decode cX9_takes 23 = .ok (.iastore, 1) := by decide +kernel
theorem dX9_takes_24 : decode cX9_takes 24 = .ok (.iinc 3 1, 3) := by decide +kernel
theorem dX9_takes_27 : decode cX9_takes 27 = .ok (.goto (-25), 3) := by decide +kernel
theorem dX9_takes_30 : decode cX9_takes 30 = .ok (.return_, 1) := by decide +kernel
theorem dX9_filled_0 : decode cX9_filled 0 = .ok (.iconst 0, 1) := by decide +kernel
theorem dX9_filled_1 : decode cX9_filled 1 = .ok (.istore_n 1, 1) := by decide +kernel
theorem dX9_filled_2 : decode cX9_filled 2 = .ok (.iconst 0, 1) := by decide +kernel
theorem dX9_filled_3 : decode cX9_filled 3 = .ok (.istore_n 2, 1) := by decide +kernel
theorem dX9_filled_4 : decode cX9_filled 4 = .ok (.iload_n 2, 1) := by decide +kernel
theorem dX9_filled_5 : decode cX9_filled 5 = .ok (.bipush 36, 2) := by decide +kernel
theorem dX9_filled_7 : decode cX9_filled 7 = .ok (.if_icmp .ge 29, 3) := by decide +kernel
theorem dX9_filled_10 : decode cX9_filled 10 = .ok (.iload_n 1, 1) := by decide +kernel
theorem dX9_filled_11 : decode cX9_filled 11 = .ok (.aload_n 0, 1) := by decide +kernel
theorem dX9_filled_12 : decode cX9_filled 12 = .ok (.getfield 7, 3) := by decide +kernel
theorem dX9_filled_15 : decode cX9_filled 15 = .ok (.bipush 25, 2) := by decide +kernel
theorem dX9_filled_17 : decode cX9_filled 17 = .ok (.iload_n 2, 1) := by decide +kernel
theorem dX9_filled_18 : decode cX9_filled 18 = .ok (.imul, 1) := by decide +kernel
theorem dX9_filled_19 : decode cX9_filled 19 = .ok (.iaload, 1) := by decide +kernel
theorem dX9_filled_20 : decode cX9_filled 20 = .ok (.ifCond .ne 7, 3) := by decide +kernel
theorem dX9_filled_23 : decode cX9_filled 23 = .ok (.iconst 0, 1) := by decide +kernel
theorem dX9_filled_24 : decode cX9_filled 24 = .ok (.goto 4, 3) := by decide +kernel
theorem dX9_filled_27 : decode cX9_filled 27 = .ok (.iconst 1, 1) := by decide +kernel
theorem dX9_filled_28 : decode cX9_filled 28 = .ok (.iadd, 1) := by decide +kernel
theorem dX9_filled_29 : decode cX9_filled 29 = .ok (.istore_n 1, 1) := by decide +kernel
theorem dX9_filled_30 : decode cX9_filled 30 = .ok (.iinc 2 1, 3) := by decide +kernel
theorem dX9_filled_33 : decode cX9_filled 33 = .ok (.goto (-29), 3) := by decide +kernel
theorem dX9_filled_36 : decode cX9_filled 36 = .ok (.iload_n 1, 1) := by decide +kernel
theorem dX9_filled_37 : decode cX9_filled 37 = .ok (.ireturn, 1) := by decide +kernel
theorem dX9_sorts_0 : decode cX9_sorts 0 = .ok (.aload_n 0, 1) := by decide +kernel
theorem dX9_sorts_1 : decode cX9_sorts 1 = .ok (.iload_n 1, 1) := by decide +kernel
theorem dX9_sorts_2 : decode cX9_sorts 2 = .ok (.iload_n 2, 1) := by decide +kernel
theorem dX9_sorts_3 : decode cX9_sorts 3 = .ok (.iadd, 1) := by decide +kernel
theorem dX9_sorts_4 : decode cX9_sorts 4 = .ok (.iaload, 1) := by decide +kernel
theorem dX9_sorts_5 : decode cX9_sorts 5 = .ok (.aload_n 0, 1) := by decide +kernel
theorem dX9_sorts_6 : decode cX9_sorts 6 = .ok (.iload_n 1, 1) := by decide +kernel
theorem dX9_sorts_7 : decode cX9_sorts 7 = .ok (.iload_n 3, 1) := by decide +kernel
theorem dX9_sorts_8 : decode cX9_sorts 8 = .ok (.iadd, 1) := by decide +kernel
theorem dX9_sorts_9 : decode cX9_sorts 9 = .ok (.iaload, 1) := by decide +kernel
theorem dX9_sorts_10 : decode cX9_sorts 10 = .ok (.if_icmp .gt 4, 3) := by decide +kernel
theorem dX9_sorts_13 : decode cX9_sorts 13 = .ok (.return_, 1) := by decide +kernel
theorem dX9_sorts_14 : decode cX9_sorts 14 = .ok (.aload_n 0, 1) := by decide +kernel
theorem dX9_sorts_15 : decode cX9_sorts 15 = .ok (.iload_n 1, 1) := by decide +kernel
theorem dX9_sorts_16 : decode cX9_sorts 16 = .ok (.iload_n 2, 1) := by decide +kernel
theorem dX9_sorts_17 : decode cX9_sorts 17 = .ok (.iadd, 1) := by decide +kernel
theorem dX9_sorts_18 : decode cX9_sorts 18 = .ok (.iaload, 1) := by decide +kernel
theorem dX9_sorts_19 : decode cX9_sorts 19 = .ok (.istore 5, 2) := by decide +kernel
theorem dX9_sorts_21 : decode cX9_sorts 21 = .ok (.aload_n 0, 1) := by decide +kernel
theorem dX9_sorts_22 : decode cX9_sorts 22 = .ok (.iload_n 1, 1) := by decide +kernel
theorem dX9_sorts_23 : decode cX9_sorts 23 = .ok (.iload_n 2, 1) := by decide +kernel
theorem dX9_sorts_24 : decode cX9_sorts 24 = .ok (.iadd, 1) := by decide +kernel
theorem dX9_sorts_25 : decode cX9_sorts 25 = .ok (.aload_n 0, 1) := by decide +kernel
theorem dX9_sorts_26 : decode cX9_sorts 26 = .ok (.iload_n 1, 1) := by decide +kernel
theorem dX9_sorts_27 : decode cX9_sorts 27 = .ok (.iload_n 3, 1) := by decide +kernel
theorem dX9_sorts_28 : decode cX9_sorts 28 = .ok (.iadd, 1) := by decide +kernel
theorem dX9_sorts_29 : decode cX9_sorts 29 = .ok (.iaload, 1) := by decide +kernel
theorem dX9_sorts_30 : decode cX9_sorts 30 = .ok (.iastore, 1) := by decide +kernel
theorem dX9_sorts_31 : decode cX9_sorts 31 = .ok (.aload_n 0, 1) := by decide +kernel
theorem dX9_sorts_32 : decode cX9_sorts 32 = .ok (.iload_n 1, 1) := by decide +kernel
theorem dX9_sorts_33 : decode cX9_sorts 33 = .ok (.iload_n 3, 1) := by decide +kernel
theorem dX9_sorts_34 : decode cX9_sorts 34 = .ok (.iadd, 1) := by decide +kernel
theorem dX9_sorts_35 : decode cX9_sorts 35 = .ok (.iload 5, 2) := by decide +kernel
theorem dX9_sorts_37 : decode cX9_sorts 37 = .ok (.iastore, 1) := by decide +kernel
theorem dX9_sorts_38 : decode cX9_sorts 38 = .ok (.aload_n 0, 1) := by decide +kernel
theorem dX9_sorts_39 : decode cX9_sorts 39 = .ok (.iload_n 1, 1) := by decide +kernel
theorem dX9_sorts_40 : decode cX9_sorts 40 = .ok (.iconst 5, 1) := by decide +kernel
theorem dX9_sorts_41 : decode cX9_sorts 41 = .ok (.iadd, 1) := by decide +kernel
theorem dX9_sorts_42 : decode cX9_sorts 42 = .ok (.iaload, 1) := by decide +kernel
theorem dX9_sorts_43 : decode cX9_sorts 43 = .ok (.iload 4, 2) := by decide +kernel
theorem dX9_sorts_45 : decode cX9_sorts 45 = .ok (.iand, 1) := by decide +kernel
theorem dX9_sorts_46 : decode cX9_sorts 46 = .ok (.istore 6, 2) := by decide +kernel
theorem dX9_sorts_48 : decode cX9_sorts 48 = .ok (.aload_n 0, 1) := by decide +kernel
theorem dX9_sorts_49 : decode cX9_sorts 49 = .ok (.iload_n 1, 1) := by decide +kernel
theorem dX9_sorts_50 : decode cX9_sorts 50 = .ok (.iconst 5, 1) := by decide +kernel
theorem dX9_sorts_51 : decode cX9_sorts 51 = .ok (.iadd, 1) := by decide +kernel
theorem dX9_sorts_52 : decode cX9_sorts 52 = .ok (.iaload, 1) := by decide +kernel
theorem dX9_sorts_53 : decode cX9_sorts 53 = .ok (.iconst 4, 1) := by decide +kernel
theorem dX9_sorts_54 : decode cX9_sorts 54 = .ok (.iload 4, 2) := by decide +kernel
theorem dX9_sorts_56 : decode cX9_sorts 56 = .ok (.imul, 1) := by decide +kernel
theorem dX9_sorts_57 : decode cX9_sorts 57 = .ok (.iand, 1) := by decide +kernel
theorem dX9_sorts_58 : decode cX9_sorts 58 = .ok (.istore 7, 2) := by decide +kernel
theorem dX9_sorts_60 : decode cX9_sorts 60 = .ok (.aload_n 0, 1) := by decide +kernel
theorem dX9_sorts_61 : decode cX9_sorts 61 = .ok (.iload_n 1, 1) := by decide +kernel
theorem dX9_sorts_62 : decode cX9_sorts 62 = .ok (.iconst 5, 1) := by decide +kernel
theorem dX9_sorts_63 : decode cX9_sorts 63 = .ok (.iadd, 1) := by decide +kernel
theorem dX9_sorts_64 : decode cX9_sorts 64 = .ok (.aload_n 0, 1) := by decide +kernel
theorem dX9_sorts_65 : decode cX9_sorts 65 = .ok (.iload_n 1, 1) := by decide +kernel
theorem dX9_sorts_66 : decode cX9_sorts 66 = .ok (.iconst 5, 1) := by decide +kernel
theorem dX9_sorts_67 : decode cX9_sorts 67 = .ok (.iadd, 1) := by decide +kernel
theorem dX9_sorts_68 : decode cX9_sorts 68 = .ok (.iaload, 1) := by decide +kernel
theorem dX9_sorts_69 : decode cX9_sorts 69 = .ok (.iload 6, 2) := by decide +kernel
theorem dX9_sorts_71 : decode cX9_sorts 71 = .ok (.isub, 1) := by decide +kernel
theorem dX9_sorts_72 : decode cX9_sorts 72 = .ok (.iload 7, 2) := by decide +kernel
theorem dX9_sorts_74 : decode cX9_sorts 74 = .ok (.isub, 1) := by decide +kernel
theorem dX9_sorts_75 : decode cX9_sorts 75 = .ok (.iconst 4, 1) := by decide +kernel
theorem dX9_sorts_76 : decode cX9_sorts 76 = .ok (.iload 6, 2) := by decide +kernel
theorem dX9_sorts_78 : decode cX9_sorts 78 = .ok (.imul, 1) := by decide +kernel
theorem dX9_sorts_79 : decode cX9_sorts 79 = .ok (.iadd, 1) := by decide +kernel
theorem dX9_sorts_80 : decode cX9_sorts 80 = .ok (.iload 7, 2) := by decide +kernel
theorem dX9_sorts_82 : decode cX9_sorts 82 = .ok (.iconst 4, 1) := by decide +kernel
theorem dX9_sorts_83 : decode cX9_sorts 83 = .ok (.idiv, 1) := by decide +kernel
theorem dX9_sorts_84 : decode cX9_sorts 84 = .ok (.iadd, 1) := by decide +kernel
theorem dX9_sorts_85 : decode cX9_sorts 85 = .ok (.iastore, 1) := by decide +kernel
theorem dX9_sorts_86 : decode cX9_sorts 86 = .ok (.return_, 1) := by decide +kernel
theorem dX9_blanks_0 : decode cX9_blanks 0 = .ok (.aload_n 0, 1) := by decide +kernel
theorem dX9_blanks_1 : decode cX9_blanks 1 = .ok (.getfield 57, 3) := by decide +kernel
theorem dX9_blanks_4 : decode cX9_blanks 4 = .ok (.aload_n 0, 1) := by decide +kernel
theorem dX9_blanks_5 : decode cX9_blanks 5 = .ok (.getfield 60, 3) := by decide +kernel
theorem dX9_blanks_8 : decode cX9_blanks 8 = .ok (.if_icmp .ge 30, 3) := by decide +kernel
theorem dX9_blanks_11 : decode cX9_blanks 11 = .ok (.aload_n 0, 1) := by decide +kernel
theorem dX9_blanks_12 : decode cX9_blanks 12 = .ok (.getfield 22, 3) := by decide +kernel
theorem dX9_blanks_15 : decode cX9_blanks 15 = .ok (.aload_n 0, 1) := by decide +kernel
theorem dX9_blanks_16 : decode cX9_blanks 16 = .ok (.getfield 57, 3) := by decide +kernel
theorem dX9_blanks_19 : decode cX9_blanks 19 = .ok (.iaload, 1) := by decide +kernel
theorem dX9_blanks_20 : decode cX9_blanks 20 = .ok (.bipush 32, 2) := by decide +kernel
theorem dX9_blanks_22 : decode cX9_blanks 22 = .ok (.if_icmp .ne 16, 3) := by decide +kernel
theorem dX9_blanks_25 : decode cX9_blanks 25 = .ok (.aload_n 0, 1) := by decide +kernel
theorem dX9_blanks_26 : decode cX9_blanks 26 = .ok (.dup, 1) := by decide +kernel
theorem dX9_blanks_27 : decode cX9_blanks 27 = .ok (.getfield 57, 3) := by decide +kernel
theorem dX9_blanks_30 : decode cX9_blanks 30 = .ok (.iconst 1, 1) := by decide +kernel
theorem dX9_blanks_31 : decode cX9_blanks 31 = .ok (.iadd, 1) := by decide +kernel
theorem dX9_blanks_32 : decode cX9_blanks 32 = .ok (.putfield 57, 3) := by decide +kernel
theorem dX9_blanks_35 : decode cX9_blanks 35 = .ok (.goto (-35), 3) := by decide +kernel
theorem dX9_blanks_38 : decode cX9_blanks 38 = .ok (.return_, 1) := by decide +kernel
theorem dX9_isAt_0 : decode cX9_isAt 0 = .ok (.aload_n 0, 1) := by decide +kernel
theorem dX9_isAt_1 : decode cX9_isAt 1 = .ok (.getfield 57, 3) := by decide +kernel
theorem dX9_isAt_4 : decode cX9_isAt 4 = .ok (.aload_n 0, 1) := by decide +kernel
theorem dX9_isAt_5 : decode cX9_isAt 5 = .ok (.getfield 60, 3) := by decide +kernel
theorem dX9_isAt_8 : decode cX9_isAt 8 = .ok (.if_icmp .ge 24, 3) := by decide +kernel
theorem dX9_isAt_11 : decode cX9_isAt 11 = .ok (.aload_n 0, 1) := by decide +kernel
theorem dX9_isAt_12 : decode cX9_isAt 12 = .ok (.getfield 22, 3) := by decide +kernel
theorem dX9_isAt_15 : decode cX9_isAt 15 = .ok (.aload_n 0, 1) := by decide +kernel
theorem dX9_isAt_16 : decode cX9_isAt 16 = .ok (.getfield 57, 3) := by decide +kernel
theorem dX9_isAt_19 : decode cX9_isAt 19 = .ok (.iaload, 1) := by decide +kernel
theorem dX9_isAt_20 : decode cX9_isAt 20 = .ok (.iload_n 1, 1) := by decide +kernel
theorem dX9_isAt_21 : decode cX9_isAt 21 = .ok (.iload_n 2, 1) := by decide +kernel
theorem dX9_isAt_22 : decode cX9_isAt 22 = .ok (.invokestatic 53, 3) := by decide +kernel
theorem dX9_isAt_25 : decode cX9_isAt 25 = .ok (.ifCond .eq 7, 3) := by decide +kernel
theorem dX9_isAt_28 : decode cX9_isAt 28 = .ok (.iconst 1, 1) := by decide +kernel
theorem dX9_isAt_29 : decode cX9_isAt 29 = .ok (.goto 4, 3) := by decide +kernel
theorem dX9_isAt_32 : decode cX9_isAt 32 = .ok (.iconst 0, 1) := by decide +kernel
theorem dX9_isAt_33 : decode cX9_isAt 33 = .ok (.ireturn, 1) := by decide +kernel
theorem dX9_fails_0 : decode cX9_fails 0 = .ok (.aload_n 0, 1) := by decide +kernel
theorem dX9_fails_1 : decode cX9_fails 1 = .ok (.aload_n 0, 1) := by decide +kernel
theorem dX9_fails_2 : decode cX9_fails 2 = .ok (.getfield 57, 3) := by decide +kernel
theorem dX9_fails_5 : decode cX9_fails 5 = .ok (.putfield 63, 3) := by decide +kernel
theorem dX9_fails_8 : decode cX9_fails 8 = .ok (.iconst 0, 1) := by decide +kernel
theorem dX9_fails_9 : decode cX9_fails 9 = .ok (.ireturn, 1) := by decide +kernel
theorem dX9_takesNumber_0 : decode cX9_takesNumber 0 = .ok (.aload_n 0, 1) := by decide +kernel
theorem dX9_takesNumber_1 : decode cX9_takesNumber 1 = .ok (.getfield 57, 3) := by decide +kernel
theorem dX9_takesNumber_4 : decode cX9_takesNumber 4 = .ok (.istore_n 2, 1) := by decide +kernel
theorem dX9_takesNumber_5 : decode cX9_takesNumber 5 = .ok (.iconst 0, 1) := by decide +kernel
theorem dX9_takesNumber_6 : decode cX9_takesNumber 6 = .ok (.istore_n 3, 1) := by decide +kernel
theorem dX9_takesNumber_7 : decode cX9_takesNumber 7 = .ok (.aload_n 0, 1) := by decide +kernel
theorem dX9_takesNumber_8 : decode cX9_takesNumber 8 = .ok (.bipush 48, 2) := by decide +kernel
theorem dX9_takesNumber_10 : decode cX9_takesNumber 10 = .ok (.bipush 57, 2) := by decide +kernel
theorem dX9_takesNumber_12 : decode cX9_takesNumber 12 = .ok (.invokevirtual 66, 3) := by decide +kernel
theorem dX9_takesNumber_15 : decode cX9_takesNumber 15 = .ok (.ifCond .eq 49, 3) := by decide +kernel
theorem dX9_takesNumber_18 : decode cX9_takesNumber 18 = .ok (.aload_n 0, 1) := by decide +kernel
theorem dX9_takesNumber_19 : decode cX9_takesNumber 19 = .ok (.getfield 57, 3) := by decide +kernel
theorem dX9_takesNumber_22 : decode cX9_takesNumber 22 = .ok (.iload_n 2, 1) := by decide +kernel
theorem dX9_takesNumber_23 : decode cX9_takesNumber 23 = .ok (.iconst 3, 1) := by decide +kernel
theorem dX9_takesNumber_24 : decode cX9_takesNumber 24 = .ok (.iadd, 1) := by decide +kernel
theorem dX9_takesNumber_25 : decode cX9_takesNumber 25 = .ok (.if_icmp .ne 8, 3) := by decide +kernel
theorem dX9_takesNumber_28 : decode cX9_takesNumber 28 = .ok (.aload_n 0, 1) := by decide +kernel
theorem dX9_takesNumber_29 : decode cX9_takesNumber 29 = .ok (.invokevirtual 70, 3) := by decide +kernel
theorem dX9_takesNumber_32 : decode cX9_takesNumber 32 = .ok (.ireturn, 1) := by decide +kernel
theorem dX9_takesNumber_33 : decode cX9_takesNumber 33 = .ok (.bipush 10, 2) := by decide +kernel
theorem dX9_takesNumber_35 : decode cX9_takesNumber 35 = .ok (.iload_n 3, 1) := by decide +kernel
theorem dX9_takesNumber_36 : decode cX9_takesNumber 36 = .ok (.imul, 1) := by decide +kernel
theorem dX9_takesNumber_37 : decode cX9_takesNumber 37 = .ok (.aload_n 0, 1) := by decide +kernel
theorem dX9_takesNumber_38 : decode cX9_takesNumber 38 = .ok (.getfield 22, 3) := by decide +kernel
theorem dX9_takesNumber_41 : decode cX9_takesNumber 41 = .ok (.aload_n 0, 1) := by decide +kernel
theorem dX9_takesNumber_42 : decode cX9_takesNumber 42 = .ok (.getfield 57, 3) := by decide +kernel
theorem dX9_takesNumber_45 : decode cX9_takesNumber 45 = .ok (.iaload, 1) := by decide +kernel
theorem dX9_takesNumber_46 : decode cX9_takesNumber 46 = .ok (.iadd, 1) := by decide +kernel
theorem dX9_takesNumber_47 : decode cX9_takesNumber 47 = .ok (.bipush 48, 2) := by decide +kernel
theorem dX9_takesNumber_49 : decode cX9_takesNumber 49 = .ok (.isub, 1) := by decide +kernel
theorem dX9_takesNumber_50 : decode cX9_takesNumber 50 = .ok (.istore_n 3, 1) := by decide +kernel
theorem dX9_takesNumber_51 : decode cX9_takesNumber 51 = .ok (.aload_n 0, 1) := by decide +kernel
theorem dX9_takesNumber_52 : decode cX9_takesNumber 52 = .ok (.dup, 1) := by decide +kernel
theorem dX9_takesNumber_53 : decode cX9_takesNumber 53 = .ok (.getfield 57, 3) := by decide +kernel
theorem dX9_takesNumber_56 : decode cX9_takesNumber 56 = .ok (.iconst 1, 1) := by decide +kernel
theorem dX9_takesNumber_57 : decode cX9_takesNumber 57 = .ok (.iadd, 1) := by decide +kernel
theorem dX9_takesNumber_58 : decode cX9_takesNumber 58 = .ok (.putfield 57, 3) := by decide +kernel
theorem dX9_takesNumber_61 : decode cX9_takesNumber 61 = .ok (.goto (-54), 3) := by decide +kernel
theorem dX9_takesNumber_64 : decode cX9_takesNumber 64 = .ok (.aload_n 0, 1) := by decide +kernel
theorem dX9_takesNumber_65 : decode cX9_takesNumber 65 = .ok (.getfield 25, 3) := by decide +kernel
theorem dX9_takesNumber_68 : decode cX9_takesNumber 68 = .ok (.iload_n 1, 1) := by decide +kernel
theorem dX9_takesNumber_69 : decode cX9_takesNumber 69 = .ok (.iconst 0, 1) := by decide +kernel
theorem dX9_takesNumber_70 : decode cX9_takesNumber 70 = .ok (.iadd, 1) := by decide +kernel
theorem dX9_takesNumber_71 : decode cX9_takesNumber 71 = .ok (.iconst 0, 1) := by decide +kernel
theorem dX9_takesNumber_72 : decode cX9_takesNumber 72 = .ok (.iastore, 1) := by decide +kernel
theorem dX9_takesNumber_73 : decode cX9_takesNumber 73 = .ok (.aload_n 0, 1) := by decide +kernel
theorem dX9_takesNumber_74 : decode cX9_takesNumber 74 = .ok (.getfield 25, 3) := by decide +kernel
theorem dX9_takesNumber_77 : decode cX9_takesNumber 77 = .ok (.iload_n 1, 1) := by decide +kernel
theorem dX9_takesNumber_78 : decode cX9_takesNumber 78 = .ok (.iconst 1, 1) := by decide +kernel
theorem dX9_takesNumber_79 : decode cX9_takesNumber 79 = .ok (.iadd, 1) := by decide +kernel
theorem dX9_takesNumber_80 : decode cX9_takesNumber 80 = .ok (.iload_n 3, 1) := by decide +kernel
theorem dX9_takesNumber_81 : decode cX9_takesNumber 81 = .ok (.iastore, 1) := by decide +kernel
theorem dX9_takesNumber_82 : decode cX9_takesNumber 82 = .ok (.iconst 1, 1) := by decide +kernel
theorem dX9_takesNumber_83 : decode cX9_takesNumber 83 = .ok (.ireturn, 1) := by decide +kernel
theorem dX9_dollar_0 : decode cX9_dollar 0 = .ok (.aload_n 0, 1) := by decide +kernel
theorem dX9_dollar_1 : decode cX9_dollar 1 = .ok (.invokevirtual 74, 3) := by decide +kernel
theorem dX9_dollar_4 : decode cX9_dollar 4 = .ok (.aload_n 0, 1) := by decide +kernel
theorem dX9_dollar_5 : decode cX9_dollar 5 = .ok (.bipush 36, 2) := by decide +kernel
theorem dX9_dollar_7 : decode cX9_dollar 7 = .ok (.bipush 36, 2) := by decide +kernel
theorem dX9_dollar_9 : decode cX9_dollar 9 = .ok (.invokevirtual 66, 3) := by decide +kernel
theorem dX9_dollar_12 : decode cX9_dollar 12 = .ok (.ifCond .ne 5, 3) := by decide +kernel
theorem dX9_dollar_15 : decode cX9_dollar 15 = .ok (.iconst 0, 1) := by decide +kernel
theorem dX9_dollar_16 : decode cX9_dollar 16 = .ok (.ireturn, 1) := by decide +kernel
theorem dX9_dollar_17 : decode cX9_dollar 17 = .ok (.aload_n 0, 1) := by decide +kernel
theorem dX9_dollar_18 : decode cX9_dollar 18 = .ok (.dup, 1) := by decide +kernel
theorem dX9_dollar_19 : decode cX9_dollar 19 = .ok (.getfield 57, 3) := by decide +kernel
theorem dX9_dollar_22 : decode cX9_dollar 22 = .ok (.iconst 1, 1) := by decide +kernel
theorem dX9_dollar_23 : decode cX9_dollar 23 = .ok (.iadd, 1) := by decide +kernel
theorem dX9_dollar_24 : decode cX9_dollar 24 = .ok (.putfield 57, 3) := by decide +kernel
theorem dX9_dollar_27 : decode cX9_dollar 27 = .ok (.aload_n 0, 1) := by decide +kernel
theorem dX9_dollar_28 : decode cX9_dollar 28 = .ok (.invokevirtual 74, 3) := by decide +kernel
theorem dX9_dollar_31 : decode cX9_dollar 31 = .ok (.iload_n 1, 1) := by decide +kernel
theorem dX9_dollar_32 : decode cX9_dollar 32 = .ok (.ireturn, 1) := by decide +kernel
theorem dX9_takesPlace_0 : decode cX9_takesPlace 0 = .ok (.aload_n 0, 1) := by decide +kernel
theorem dX9_takesPlace_1 : decode cX9_takesPlace 1 = .ok (.getfield 25, 3) := by decide +kernel
theorem dX9_takesPlace_4 : decode cX9_takesPlace 4 = .ok (.iload_n 1, 1) := by decide +kernel
theorem dX9_takesPlace_5 : decode cX9_takesPlace 5 = .ok (.iconst 5, 1) := by decide +kernel
theorem dX9_takesPlace_6 : decode cX9_takesPlace 6 = .ok (.iadd, 1) := by decide +kernel
theorem dX9_takesPlace_7 : decode cX9_takesPlace 7 = .ok (.dup2, 1) := by decide +kernel
theorem dX9_takesPlace_8 : decode cX9_takesPlace 8 = .ok (.iaload, 1) := by decide +kernel
theorem dX9_takesPlace_9 : decode cX9_takesPlace 9 = .ok (.aload_n 0, 1) := by decide +kernel
theorem dX9_takesPlace_10 : decode cX9_takesPlace 10 = .ok (.iload_n 3, 1) := by decide +kernel
theorem dX9_takesPlace_11 : decode cX9_takesPlace 11 = .ok (.invokevirtual 77, 3) := by decide +kernel
theorem dX9_takesPlace_14 : decode cX9_takesPlace 14 = .ok (.iadd, 1) := by decide +kernel
theorem dX9_takesPlace_15 : decode cX9_takesPlace 15 = .ok (.iastore, 1) := by decide +kernel
theorem dX9_takesPlace_16 : decode cX9_takesPlace 16 = .ok (.aload_n 0, 1) := by decide +kernel
theorem dX9_takesPlace_17 : decode cX9_takesPlace 17 = .ok (.bipush 97, 2) := by decide +kernel
theorem dX9_takesPlace_19 : decode cX9_takesPlace 19 = .ok (.bipush 102, 2) := by decide +kernel
theorem dX9_takesPlace_21 : decode cX9_takesPlace 21 = .ok (.invokevirtual 66, 3) := by decide +kernel
theorem dX9_takesPlace_24 : decode cX9_takesPlace 24 = .ok (.istore 4, 2) := by decide +kernel
theorem dX9_takesPlace_26 : decode cX9_takesPlace 26 = .ok (.iload 4, 2) := by decide +kernel
theorem dX9_takesPlace_28 : decode cX9_takesPlace 28 = .ok (.ifCond .ne 19, 3) := by decide +kernel
theorem dX9_takesPlace_31 : decode cX9_takesPlace 31 = .ok (.aload_n 0, 1) := by decide +kernel
theorem dX9_takesPlace_32 : decode cX9_takesPlace 32 = .ok (.bipush 65, 2) := by decide +kernel
theorem dX9_takesPlace_34 : decode cX9_takesPlace 34 = .ok (.bipush 70, 2) := by decide +kernel
theorem dX9_takesPlace_36 : decode cX9_takesPlace 36 = .ok (.invokevirtual 66, 3) := by decide +kernel
theorem dX9_takesPlace_39 : decode cX9_takesPlace 39 = .ok (.ifCond .ne 8, 3) := by decide +kernel
theorem dX9_takesPlace_42 : decode cX9_takesPlace 42 = .ok (.aload_n 0, 1) := by decide +kernel
theorem dX9_takesPlace_43 : decode cX9_takesPlace 43 = .ok (.invokevirtual 70, 3) := by decide +kernel
theorem dX9_takesPlace_46 : decode cX9_takesPlace 46 = .ok (.ireturn, 1) := by decide +kernel
theorem dX9_takesPlace_47 : decode cX9_takesPlace 47 = .ok (.aload_n 0, 1) := by decide +kernel
theorem dX9_takesPlace_48 : decode cX9_takesPlace 48 = .ok (.getfield 25, 3) := by decide +kernel
theorem dX9_takesPlace_51 : decode cX9_takesPlace 51 = .ok (.iload_n 1, 1) := by decide +kernel
theorem dX9_takesPlace_52 : decode cX9_takesPlace 52 = .ok (.iload_n 2, 1) := by decide +kernel
theorem dX9_takesPlace_53 : decode cX9_takesPlace 53 = .ok (.iadd, 1) := by decide +kernel
theorem dX9_takesPlace_54 : decode cX9_takesPlace 54 = .ok (.aload_n 0, 1) := by decide +kernel
theorem dX9_takesPlace_55 : decode cX9_takesPlace 55 = .ok (.getfield 22, 3) := by decide +kernel
theorem dX9_takesPlace_58 : decode cX9_takesPlace 58 = .ok (.aload_n 0, 1) := by decide +kernel
theorem dX9_takesPlace_59 : decode cX9_takesPlace 59 = .ok (.getfield 57, 3) := by decide +kernel
theorem dX9_takesPlace_62 : decode cX9_takesPlace 62 = .ok (.iaload, 1) := by decide +kernel
theorem dX9_takesPlace_63 : decode cX9_takesPlace 63 = .ok (.iload 4, 2) := by decide +kernel
theorem dX9_takesPlace_65 : decode cX9_takesPlace 65 = .ok (.ifCond .eq 8, 3) := by decide +kernel
theorem dX9_takesPlace_68 : decode cX9_takesPlace 68 = .ok (.bipush 97, 2) := by decide +kernel
theorem dX9_takesPlace_70 : decode cX9_takesPlace 70 = .ok (.goto 5, 3) := by decide +kernel
theorem dX9_takesPlace_73 : decode cX9_takesPlace 73 = .ok (.bipush 65, 2) := by decide +kernel
theorem dX9_takesPlace_75 : decode cX9_takesPlace 75 = .ok (.isub, 1) := by decide +kernel
theorem dX9_takesPlace_76 : decode cX9_takesPlace 76 = .ok (.iastore, 1) := by decide +kernel
theorem dX9_takesPlace_77 : decode cX9_takesPlace 77 = .ok (.aload_n 0, 1) := by decide +kernel
theorem dX9_takesPlace_78 : decode cX9_takesPlace 78 = .ok (.dup, 1) := by decide +kernel
theorem dX9_takesPlace_79 : decode cX9_takesPlace 79 = .ok (.getfield 57, 3) := by decide +kernel
theorem dX9_takesPlace_82 : decode cX9_takesPlace 82 = .ok (.iconst 1, 1) := by decide +kernel
theorem dX9_takesPlace_83 : decode cX9_takesPlace 83 = .ok (.iadd, 1) := by decide +kernel
theorem dX9_takesPlace_84 : decode cX9_takesPlace 84 = .ok (.putfield 57, 3) := by decide +kernel
theorem dX9_takesPlace_87 : decode cX9_takesPlace 87 = .ok (.aload_n 0, 1) := by decide +kernel
theorem dX9_takesPlace_88 : decode cX9_takesPlace 88 = .ok (.getfield 25, 3) := by decide +kernel
theorem dX9_takesPlace_91 : decode cX9_takesPlace 91 = .ok (.iload_n 1, 1) := by decide +kernel
theorem dX9_takesPlace_92 : decode cX9_takesPlace 92 = .ok (.iconst 5, 1) := by decide +kernel
theorem dX9_takesPlace_93 : decode cX9_takesPlace 93 = .ok (.iadd, 1) := by decide +kernel
theorem dX9_takesPlace_94 : decode cX9_takesPlace 94 = .ok (.dup2, 1) := by decide +kernel
theorem dX9_takesPlace_95 : decode cX9_takesPlace 95 = .ok (.iaload, 1) := by decide +kernel
theorem dX9_takesPlace_96 : decode cX9_takesPlace 96 = .ok (.aload_n 0, 1) := by decide +kernel
theorem dX9_takesPlace_97 : decode cX9_takesPlace 97 = .ok (.iconst 2, 1) := by decide +kernel
theorem dX9_takesPlace_98 : decode cX9_takesPlace 98 = .ok (.iload_n 3, 1) := by decide +kernel
theorem dX9_takesPlace_99 : decode cX9_takesPlace 99 = .ok (.imul, 1) := by decide +kernel
theorem dX9_takesPlace_100 : decode cX9_takesPlace 100 = .ok (.invokevirtual 77, 3) := by decide +kernel
theorem dX9_takesPlace_103 : decode cX9_takesPlace 103 = .ok (.iadd, 1) := by decide +kernel
theorem dX9_takesPlace_104 : decode cX9_takesPlace 104 = .ok (.iastore, 1) := by decide +kernel
theorem dX9_takesPlace_105 : decode cX9_takesPlace 105 = .ok (.aload_n 0, 1) := by decide +kernel
theorem dX9_takesPlace_106 : decode cX9_takesPlace 106 = .ok (.invokevirtual 74, 3) := by decide +kernel
theorem dX9_takesPlace_109 : decode cX9_takesPlace 109 = .ok (.aload_n 0, 1) := by decide +kernel
theorem dX9_takesPlace_110 : decode cX9_takesPlace 110 = .ok (.bipush 49, 2) := by decide +kernel
theorem dX9_takesPlace_112 : decode cX9_takesPlace 112 = .ok (.bipush 54, 2) := by decide +kernel
theorem dX9_takesPlace_114 : decode cX9_takesPlace 114 = .ok (.invokevirtual 66, 3) := by decide +kernel
theorem dX9_takesPlace_117 : decode cX9_takesPlace 117 = .ok (.ifCond .ne 8, 3) := by decide +kernel
theorem dX9_takesPlace_120 : decode cX9_takesPlace 120 = .ok (.aload_n 0, 1) := by decide +kernel
theorem dX9_takesPlace_121 : decode cX9_takesPlace 121 = .ok (.invokevirtual 70, 3) := by decide +kernel
theorem dX9_takesPlace_124 : decode cX9_takesPlace 124 = .ok (.ireturn, 1) := by decide +kernel
theorem dX9_takesPlace_125 : decode cX9_takesPlace 125 = .ok (.aload_n 0, 1) := by decide +kernel
theorem dX9_takesPlace_126 : decode cX9_takesPlace 126 = .ok (.getfield 25, 3) := by decide +kernel
theorem dX9_takesPlace_129 : decode cX9_takesPlace 129 = .ok (.iload_n 1, 1) := by decide +kernel
theorem dX9_takesPlace_130 : decode cX9_takesPlace 130 = .ok (.iload_n 2, 1) := by decide +kernel
theorem dX9_takesPlace_131 : decode cX9_takesPlace 131 = .ok (.iadd, 1) := by decide +kernel
theorem dX9_takesPlace_132 : decode cX9_takesPlace 132 = .ok (.iconst 1, 1) := by decide +kernel
theorem dX9_takesPlace_133 : decode cX9_takesPlace 133 = .ok (.iadd, 1) := by decide +kernel
theorem dX9_takesPlace_134 : decode cX9_takesPlace 134 = .ok (.aload_n 0, 1) := by decide +kernel
theorem dX9_takesPlace_135 : decode cX9_takesPlace 135 = .ok (.getfield 22, 3) := by decide +kernel
theorem dX9_takesPlace_138 : decode cX9_takesPlace 138 = .ok (.aload_n 0, 1) := by decide +kernel
theorem dX9_takesPlace_139 : decode cX9_takesPlace 139 = .ok (.getfield 57, 3) := by decide +kernel
theorem dX9_takesPlace_142 : decode cX9_takesPlace 142 = .ok (.iaload, 1) := by decide +kernel
theorem dX9_takesPlace_143 : decode cX9_takesPlace 143 = .ok (.bipush 49, 2) := by decide +kernel
theorem dX9_takesPlace_145 : decode cX9_takesPlace 145 = .ok (.isub, 1) := by decide +kernel
theorem dX9_takesPlace_146 : decode cX9_takesPlace 146 = .ok (.iastore, 1) := by decide +kernel
theorem dX9_takesPlace_147 : decode cX9_takesPlace 147 = .ok (.aload_n 0, 1) := by decide +kernel
theorem dX9_takesPlace_148 : decode cX9_takesPlace 148 = .ok (.dup, 1) := by decide +kernel
theorem dX9_takesPlace_149 : decode cX9_takesPlace 149 = .ok (.getfield 57, 3) := by decide +kernel
theorem dX9_takesPlace_152 : decode cX9_takesPlace 152 = .ok (.iconst 1, 1) := by decide +kernel
theorem dX9_takesPlace_153 : decode cX9_takesPlace 153 = .ok (.iadd, 1) := by decide +kernel
theorem dX9_takesPlace_154 : decode cX9_takesPlace 154 = .ok (.putfield 57, 3) := by decide +kernel
theorem dX9_takesPlace_157 : decode cX9_takesPlace 157 = .ok (.iconst 1, 1) := by decide +kernel
theorem dX9_takesPlace_158 : decode cX9_takesPlace 158 = .ok (.ireturn, 1) := by decide +kernel
theorem dX9_takesTerm_0 : decode cX9_takesTerm 0 = .ok (.aload_n 0, 1) := by decide +kernel
theorem dX9_takesTerm_1 : decode cX9_takesTerm 1 = .ok (.invokevirtual 74, 3) := by decide +kernel
theorem dX9_takesTerm_4 : decode cX9_takesTerm 4 = .ok (.aload_n 0, 1) := by decide +kernel
theorem dX9_takesTerm_5 : decode cX9_takesTerm 5 = .ok (.bipush 35, 2) := by decide +kernel
theorem dX9_takesTerm_7 : decode cX9_takesTerm 7 = .ok (.bipush 35, 2) := by decide +kernel
theorem dX9_takesTerm_9 : decode cX9_takesTerm 9 = .ok (.invokevirtual 66, 3) := by decide +kernel
theorem dX9_takesTerm_12 : decode cX9_takesTerm 12 = .ok (.ifCond .eq 24, 3) := by decide +kernel
theorem dX9_takesTerm_15 : decode cX9_takesTerm 15 = .ok (.aload_n 0, 1) := by decide +kernel
theorem dX9_takesTerm_16 : decode cX9_takesTerm 16 = .ok (.getfield 25, 3) := by decide +kernel
theorem dX9_takesTerm_19 : decode cX9_takesTerm 19 = .ok (.iload_n 1, 1) := by decide +kernel
theorem dX9_takesTerm_20 : decode cX9_takesTerm 20 = .ok (.iconst 0, 1) := by decide +kernel
theorem dX9_takesTerm_21 : decode cX9_takesTerm 21 = .ok (.iadd, 1) := by decide +kernel
theorem dX9_takesTerm_22 : decode cX9_takesTerm 22 = .ok (.iconst 3, 1) := by decide +kernel
theorem dX9_takesTerm_23 : decode cX9_takesTerm 23 = .ok (.iastore, 1) := by decide +kernel
theorem dX9_takesTerm_24 : decode cX9_takesTerm 24 = .ok (.aload_n 0, 1) := by decide +kernel
theorem dX9_takesTerm_25 : decode cX9_takesTerm 25 = .ok (.dup, 1) := by decide +kernel
theorem dX9_takesTerm_26 : decode cX9_takesTerm 26 = .ok (.getfield 57, 3) := by decide +kernel
theorem dX9_takesTerm_29 : decode cX9_takesTerm 29 = .ok (.iconst 1, 1) := by decide +kernel
theorem dX9_takesTerm_30 : decode cX9_takesTerm 30 = .ok (.iadd, 1) := by decide +kernel
theorem dX9_takesTerm_31 : decode cX9_takesTerm 31 = .ok (.putfield 57, 3) := by decide +kernel
theorem dX9_takesTerm_34 : decode cX9_takesTerm 34 = .ok (.iconst 1, 1) := by decide +kernel
theorem dX9_takesTerm_35 : decode cX9_takesTerm 35 = .ok (.ireturn, 1) := by decide +kernel
theorem dX9_takesTerm_36 : decode cX9_takesTerm 36 = .ok (.aload_n 0, 1) := by decide +kernel
theorem dX9_takesTerm_37 : decode cX9_takesTerm 37 = .ok (.bipush 48, 2) := by decide +kernel
theorem dX9_takesTerm_39 : decode cX9_takesTerm 39 = .ok (.bipush 57, 2) := by decide +kernel
theorem dX9_takesTerm_41 : decode cX9_takesTerm 41 = .ok (.invokevirtual 66, 3) := by decide +kernel
theorem dX9_takesTerm_44 : decode cX9_takesTerm 44 = .ok (.ifCond .eq 9, 3) := by decide +kernel
theorem dX9_takesTerm_47 : decode cX9_takesTerm 47 = .ok (.aload_n 0, 1) := by decide +kernel
theorem dX9_takesTerm_48 : decode cX9_takesTerm 48 = .ok (.iload_n 1, 1) := by decide +kernel
theorem dX9_takesTerm_49 : decode cX9_takesTerm 49 = .ok (.invokevirtual 81, 3) := by decide +kernel
theorem dX9_takesTerm_52 : decode cX9_takesTerm 52 = .ok (.ireturn, 1) := by decide +kernel
theorem dX9_takesTerm_53 : decode cX9_takesTerm 53 = .ok (.aload_n 0, 1) := by decide +kernel
theorem dX9_takesTerm_54 : decode cX9_takesTerm 54 = .ok (.getfield 25, 3) := by decide +kernel
theorem dX9_takesTerm_57 : decode cX9_takesTerm 57 = .ok (.iload_n 1, 1) := by decide +kernel
theorem dX9_takesTerm_58 : decode cX9_takesTerm 58 = .ok (.iconst 0, 1) := by decide +kernel
theorem dX9_takesTerm_59 : decode cX9_takesTerm 59 = .ok (.iadd, 1) := by decide +kernel
theorem dX9_takesTerm_60 : decode cX9_takesTerm 60 = .ok (.iconst 1, 1) := by decide +kernel
theorem dX9_takesTerm_61 : decode cX9_takesTerm 61 = .ok (.iastore, 1) := by decide +kernel
theorem dX9_takesTerm_62 : decode cX9_takesTerm 62 = .ok (.aload_n 0, 1) := by decide +kernel
theorem dX9_takesTerm_63 : decode cX9_takesTerm 63 = .ok (.iload_n 1, 1) := by decide +kernel
theorem dX9_takesTerm_64 : decode cX9_takesTerm 64 = .ok (.iconst 1, 1) := by decide +kernel
theorem dX9_takesTerm_65 : decode cX9_takesTerm 65 = .ok (.iconst 1, 1) := by decide +kernel
theorem dX9_takesTerm_66 : decode cX9_takesTerm 66 = .ok (.invokevirtual 85, 3) := by decide +kernel
theorem dX9_takesTerm_69 : decode cX9_takesTerm 69 = .ok (.ifCond .ne 5, 3) := by decide +kernel
theorem dX9_takesTerm_72 : decode cX9_takesTerm 72 = .ok (.iconst 0, 1) := by decide +kernel
theorem dX9_takesTerm_73 : decode cX9_takesTerm 73 = .ok (.ireturn, 1) := by decide +kernel
theorem dX9_takesTerm_74 : decode cX9_takesTerm 74 = .ok (.aload_n 0, 1) := by decide +kernel
theorem dX9_takesTerm_75 : decode cX9_takesTerm 75 = .ok (.invokevirtual 74, 3) := by decide +kernel
theorem dX9_takesTerm_78 : decode cX9_takesTerm 78 = .ok (.aload_n 0, 1) := by decide +kernel
theorem dX9_takesTerm_79 : decode cX9_takesTerm 79 = .ok (.bipush 58, 2) := by decide +kernel
theorem dX9_takesTerm_81 : decode cX9_takesTerm 81 = .ok (.bipush 58, 2) := by decide +kernel
theorem dX9_takesTerm_83 : decode cX9_takesTerm 83 = .ok (.invokevirtual 66, 3) := by decide +kernel
theorem dX9_takesTerm_86 : decode cX9_takesTerm 86 = .ok (.ifCond .ne 5, 3) := by decide +kernel
theorem dX9_takesTerm_89 : decode cX9_takesTerm 89 = .ok (.iconst 1, 1) := by decide +kernel
theorem dX9_takesTerm_90 : decode cX9_takesTerm 90 = .ok (.ireturn, 1) := by decide +kernel
theorem dX9_takesTerm_91 : decode cX9_takesTerm 91 = .ok (.aload_n 0, 1) := by decide +kernel
theorem dX9_takesTerm_92 : decode cX9_takesTerm 92 = .ok (.dup, 1) := by decide +kernel
theorem dX9_takesTerm_93 : decode cX9_takesTerm 93 = .ok (.getfield 57, 3) := by decide +kernel
theorem dX9_takesTerm_96 : decode cX9_takesTerm 96 = .ok (.iconst 1, 1) := by decide +kernel
theorem dX9_takesTerm_97 : decode cX9_takesTerm 97 = .ok (.iadd, 1) := by decide +kernel
theorem dX9_takesTerm_98 : decode cX9_takesTerm 98 = .ok (.putfield 57, 3) := by decide +kernel
theorem dX9_takesTerm_101 : decode cX9_takesTerm 101 = .ok (.aload_n 0, 1) := by decide +kernel
theorem dX9_takesTerm_102 : decode cX9_takesTerm 102 = .ok (.getfield 25, 3) := by decide +kernel
theorem dX9_takesTerm_105 : decode cX9_takesTerm 105 = .ok (.iload_n 1, 1) := by decide +kernel
theorem dX9_takesTerm_106 : decode cX9_takesTerm 106 = .ok (.iconst 0, 1) := by decide +kernel
theorem dX9_takesTerm_107 : decode cX9_takesTerm 107 = .ok (.iadd, 1) := by decide +kernel
theorem dX9_takesTerm_108 : decode cX9_takesTerm 108 = .ok (.iconst 2, 1) := by decide +kernel
theorem dX9_takesTerm_109 : decode cX9_takesTerm 109 = .ok (.iastore, 1) := by decide +kernel
theorem dX9_takesTerm_110 : decode cX9_takesTerm 110 = .ok (.aload_n 0, 1) := by decide +kernel
theorem dX9_takesTerm_111 : decode cX9_takesTerm 111 = .ok (.iload_n 1, 1) := by decide +kernel
theorem dX9_takesTerm_112 : decode cX9_takesTerm 112 = .ok (.iconst 3, 1) := by decide +kernel
theorem dX9_takesTerm_113 : decode cX9_takesTerm 113 = .ok (.iconst 4, 1) := by decide +kernel
theorem dX9_takesTerm_114 : decode cX9_takesTerm 114 = .ok (.invokevirtual 85, 3) := by decide +kernel
theorem dX9_takesTerm_117 : decode cX9_takesTerm 117 = .ok (.ifCond .ne 5, 3) := by decide +kernel
theorem dX9_takesTerm_120 : decode cX9_takesTerm 120 = .ok (.iconst 0, 1) := by decide +kernel
theorem dX9_takesTerm_121 : decode cX9_takesTerm 121 = .ok (.ireturn, 1) := by decide +kernel
theorem dX9_takesTerm_122 : decode cX9_takesTerm 122 = .ok (.aload_n 0, 1) := by decide +kernel
theorem dX9_takesTerm_123 : decode cX9_takesTerm 123 = .ok (.getfield 25, 3) := by decide +kernel
theorem dX9_takesTerm_126 : decode cX9_takesTerm 126 = .ok (.iload_n 1, 1) := by decide +kernel
theorem dX9_takesTerm_127 : decode cX9_takesTerm 127 = .ok (.iconst 1, 1) := by decide +kernel
theorem dX9_takesTerm_128 : decode cX9_takesTerm 128 = .ok (.iconst 3, 1) := by decide +kernel
theorem dX9_takesTerm_129 : decode cX9_takesTerm 129 = .ok (.iconst 1, 1) := by decide +kernel
theorem dX9_takesTerm_130 : decode cX9_takesTerm 130 = .ok (.invokestatic 88, 3) := by decide +kernel
theorem dX9_takesTerm_133 : decode cX9_takesTerm 133 = .ok (.aload_n 0, 1) := by decide +kernel
theorem dX9_takesTerm_134 : decode cX9_takesTerm 134 = .ok (.getfield 25, 3) := by decide +kernel
theorem dX9_takesTerm_137 : decode cX9_takesTerm 137 = .ok (.iload_n 1, 1) := by decide +kernel
theorem dX9_takesTerm_138 : decode cX9_takesTerm 138 = .ok (.iconst 2, 1) := by decide +kernel
theorem dX9_takesTerm_139 : decode cX9_takesTerm 139 = .ok (.iconst 4, 1) := by decide +kernel
theorem dX9_takesTerm_140 : decode cX9_takesTerm 140 = .ok (.iconst 2, 1) := by decide +kernel
theorem dX9_takesTerm_141 : decode cX9_takesTerm 141 = .ok (.invokestatic 88, 3) := by decide +kernel
theorem dX9_takesTerm_144 : decode cX9_takesTerm 144 = .ok (.iconst 1, 1) := by decide +kernel
theorem dX9_takesTerm_145 : decode cX9_takesTerm 145 = .ok (.ireturn, 1) := by decide +kernel
theorem dX9_isRead_0 : decode cX9_isRead 0 = .ok (.iconst 0, 1) := by decide +kernel
theorem dX9_isRead_1 : decode cX9_isRead 1 = .ok (.istore_n 1, 1) := by decide +kernel
theorem dX9_isRead_2 : decode cX9_isRead 2 = .ok (.iload_n 1, 1) := by decide +kernel
theorem dX9_isRead_3 : decode cX9_isRead 3 = .ok (.bipush 25, 2) := by decide +kernel
theorem dX9_isRead_5 : decode cX9_isRead 5 = .ok (.if_icmp .ge 16, 3) := by decide +kernel
theorem dX9_isRead_8 : decode cX9_isRead 8 = .ok (.aload_n 0, 1) := by decide +kernel
theorem dX9_isRead_9 : decode cX9_isRead 9 = .ok (.getfield 25, 3) := by decide +kernel
theorem dX9_isRead_12 : decode cX9_isRead 12 = .ok (.iload_n 1, 1) := by decide +kernel
theorem dX9_isRead_13 : decode cX9_isRead 13 = .ok (.iconst 0, 1) := by decide +kernel
theorem dX9_isRead_14 : decode cX9_isRead 14 = .ok (.iastore, 1) := by decide +kernel
theorem dX9_isRead_15 : decode cX9_isRead 15 = .ok (.iinc 1 1, 3) := by decide +kernel
theorem dX9_isRead_18 : decode cX9_isRead 18 = .ok (.goto (-16), 3) := by decide +kernel
theorem dX9_isRead_21 : decode cX9_isRead 21 = .ok (.aload_n 0, 1) := by decide +kernel
theorem dX9_isRead_22 : decode cX9_isRead 22 = .ok (.iconst 0, 1) := by decide +kernel
theorem dX9_isRead_23 : decode cX9_isRead 23 = .ok (.putfield 57, 3) := by decide +kernel
theorem dX9_isRead_26 : decode cX9_isRead 26 = .ok (.iconst 1, 1) := by decide +kernel
theorem dX9_isRead_27 : decode cX9_isRead 27 = .ok (.istore_n 1, 1) := by decide +kernel
theorem dX9_isRead_28 : decode cX9_isRead 28 = .ok (.iload_n 1, 1) := by decide +kernel
theorem dX9_isRead_29 : decode cX9_isRead 29 = .ok (.ifCond .eq 89, 3) := by decide +kernel
theorem dX9_isRead_32 : decode cX9_isRead 32 = .ok (.aload_n 0, 1) := by decide +kernel
theorem dX9_isRead_33 : decode cX9_isRead 33 = .ok (.invokevirtual 74, 3) := by decide +kernel
theorem dX9_isRead_36 : decode cX9_isRead 36 = .ok (.aload_n 0, 1) := by decide +kernel
theorem dX9_isRead_37 : decode cX9_isRead 37 = .ok (.getfield 25, 3) := by decide +kernel
theorem dX9_isRead_40 : decode cX9_isRead 40 = .ok (.iconst 0, 1) := by decide +kernel
theorem dX9_isRead_41 : decode cX9_isRead 41 = .ok (.iaload, 1) := by decide +kernel
theorem dX9_isRead_42 : decode cX9_isRead 42 = .ok (.iconst 4, 1) := by decide +kernel
theorem dX9_isRead_43 : decode cX9_isRead 43 = .ok (.if_icmp .eq 21, 3) := by decide +kernel
theorem dX9_isRead_46 : decode cX9_isRead 46 = .ok (.aload_n 0, 1) := by decide +kernel
theorem dX9_isRead_47 : decode cX9_isRead 47 = .ok (.iconst 1, 1) := by decide +kernel
theorem dX9_isRead_48 : decode cX9_isRead 48 = .ok (.bipush 6, 2) := by decide +kernel
theorem dX9_isRead_50 : decode cX9_isRead 50 = .ok (.aload_n 0, 1) := by decide +kernel
theorem dX9_isRead_51 : decode cX9_isRead 51 = .ok (.getfield 25, 3) := by decide +kernel
theorem dX9_isRead_54 : decode cX9_isRead 54 = .ok (.iconst 0, 1) := by decide +kernel
theorem dX9_isRead_55 : decode cX9_isRead 55 = .ok (.iaload, 1) := by decide +kernel
theorem dX9_isRead_56 : decode cX9_isRead 56 = .ok (.imul, 1) := by decide +kernel
theorem dX9_isRead_57 : decode cX9_isRead 57 = .ok (.iadd, 1) := by decide +kernel
theorem dX9_isRead_58 : decode cX9_isRead 58 = .ok (.invokevirtual 92, 3) := by decide +kernel
theorem dX9_isRead_61 : decode cX9_isRead 61 = .ok (.ifCond .ne 13, 3) := by decide +kernel
theorem dX9_isRead_64 : decode cX9_isRead 64 = .ok (.aload_n 0, 1) := by decide +kernel
theorem dX9_isRead_65 : decode cX9_isRead 65 = .ok (.aload_n 0, 1) := by decide +kernel
theorem dX9_isRead_66 : decode cX9_isRead 66 = .ok (.getfield 57, 3) := by decide +kernel
theorem dX9_isRead_69 : decode cX9_isRead 69 = .ok (.putfield 63, 3) := by decide +kernel
theorem dX9_isRead_72 : decode cX9_isRead 72 = .ok (.iconst 0, 1) := by decide +kernel
theorem dX9_isRead_73 : decode cX9_isRead 73 = .ok (.ireturn, 1) := by decide +kernel
theorem dX9_isRead_74 : decode cX9_isRead 74 = .ok (.aload_n 0, 1) := by decide +kernel
theorem dX9_isRead_75 : decode cX9_isRead 75 = .ok (.getfield 25, 3) := by decide +kernel
theorem dX9_isRead_78 : decode cX9_isRead 78 = .ok (.iconst 0, 1) := by decide +kernel
theorem dX9_isRead_79 : decode cX9_isRead 79 = .ok (.dup2, 1) := by decide +kernel
theorem dX9_isRead_80 : decode cX9_isRead 80 = .ok (.iaload, 1) := by decide +kernel
theorem dX9_isRead_81 : decode cX9_isRead 81 = .ok (.iconst 1, 1) := by decide +kernel
theorem dX9_isRead_82 : decode cX9_isRead 82 = .ok (.iadd, 1) := by decide +kernel
theorem dX9_isRead_83 : decode cX9_isRead 83 = .ok (.iastore, 1) := by decide +kernel
theorem dX9_isRead_84 : decode cX9_isRead 84 = .ok (.aload_n 0, 1) := by decide +kernel
theorem dX9_isRead_85 : decode cX9_isRead 85 = .ok (.invokevirtual 74, 3) := by decide +kernel
theorem dX9_isRead_88 : decode cX9_isRead 88 = .ok (.aload_n 0, 1) := by decide +kernel
theorem dX9_isRead_89 : decode cX9_isRead 89 = .ok (.bipush 43, 2) := by decide +kernel
theorem dX9_isRead_91 : decode cX9_isRead 91 = .ok (.bipush 43, 2) := by decide +kernel
theorem dX9_isRead_93 : decode cX9_isRead 93 = .ok (.invokevirtual 66, 3) := by decide +kernel
theorem dX9_isRead_96 : decode cX9_isRead 96 = .ok (.istore_n 1, 1) := by decide +kernel
theorem dX9_isRead_97 : decode cX9_isRead 97 = .ok (.aload_n 0, 1) := by decide +kernel
theorem dX9_isRead_98 : decode cX9_isRead 98 = .ok (.dup, 1) := by decide +kernel
theorem dX9_isRead_99 : decode cX9_isRead 99 = .ok (.getfield 57, 3) := by decide +kernel
theorem dX9_isRead_102 : decode cX9_isRead 102 = .ok (.iload_n 1, 1) := by decide +kernel
theorem dX9_isRead_103 : decode cX9_isRead 103 = .ok (.ifCond .eq 7, 3) := by decide +kernel
theorem dX9_isRead_106 : decode cX9_isRead 106 = .ok (.iconst 1, 1) := by decide +kernel
theorem dX9_isRead_107 : decode cX9_isRead 107 = .ok (.goto 4, 3) := by decide +kernel
theorem dX9_isRead_110 : decode cX9_isRead 110 = .ok (.iconst 0, 1) := by decide +kernel
theorem dX9_isRead_111 : decode cX9_isRead 111 = .ok (.iadd, 1) := by decide +kernel
theorem dX9_isRead_112 : decode cX9_isRead 112 = .ok (.putfield 57, 3) := by decide +kernel
theorem dX9_isRead_115 : decode cX9_isRead 115 = .ok (.goto (-87), 3) := by decide +kernel
theorem dX9_isRead_118 : decode cX9_isRead 118 = .ok (.aload_n 0, 1) := by decide +kernel
theorem dX9_isRead_119 : decode cX9_isRead 119 = .ok (.getfield 57, 3) := by decide +kernel
theorem dX9_isRead_122 : decode cX9_isRead 122 = .ok (.aload_n 0, 1) := by decide +kernel
theorem dX9_isRead_123 : decode cX9_isRead 123 = .ok (.getfield 60, 3) := by decide +kernel
theorem dX9_isRead_126 : decode cX9_isRead 126 = .ok (.if_icmp .eq 10, 3) := by decide +kernel
theorem dX9_isRead_129 : decode cX9_isRead 129 = .ok (.aload_n 0, 1) := by decide +kernel
theorem dX9_isRead_130 : decode cX9_isRead 130 = .ok (.invokevirtual 70, 3) := by decide +kernel
theorem dX9_isRead_133 : decode cX9_isRead 133 = .ok (.ifCond .eq 7, 3) := by decide +kernel
theorem dX9_isRead_136 : decode cX9_isRead 136 = .ok (.iconst 1, 1) := by decide +kernel
theorem dX9_isRead_137 : decode cX9_isRead 137 = .ok (.goto 4, 3) := by decide +kernel
theorem dX9_isRead_140 : decode cX9_isRead 140 = .ok (.iconst 0, 1) := by decide +kernel
theorem dX9_isRead_141 : decode cX9_isRead 141 = .ok (.ireturn, 1) := by decide +kernel
theorem dX9_type_0 : decode cX9_type 0 = .ok (.iload_n 1, 1) := by decide +kernel
theorem dX9_type_1 : decode cX9_type 1 = .ok (.iconst 0, 1) := by decide +kernel
theorem dX9_type_2 : decode cX9_type 2 = .ok (.bipush 127, 2) := by decide +kernel
theorem dX9_type_4 : decode cX9_type 4 = .ok (.invokestatic 53, 3) := by decide +kernel
theorem dX9_type_7 : decode cX9_type 7 = .ok (.ifCond .ne 8, 3) := by decide +kernel
theorem dX9_type_10 : decode cX9_type 10 = .ok (.aload_n 0, 1) := by decide +kernel
theorem dX9_type_11 : decode cX9_type 11 = .ok (.invokevirtual 95, 3) := by decide +kernel
theorem dX9_type_14 : decode cX9_type 14 = .ok (.ireturn, 1) := by decide +kernel
theorem dX9_type_15 : decode cX9_type 15 = .ok (.aload_n 0, 1) := by decide +kernel
theorem dX9_type_16 : decode cX9_type 16 = .ok (.getfield 60, 3) := by decide +kernel
theorem dX9_type_19 : decode cX9_type 19 = .ok (.bipush 60, 2) := by decide +kernel
theorem dX9_type_21 : decode cX9_type 21 = .ok (.if_icmp .ne 16, 3) := by decide +kernel
theorem dX9_type_24 : decode cX9_type 24 = .ok (.aload_n 0, 1) := by decide +kernel
theorem dX9_type_25 : decode cX9_type 25 = .ok (.getfield 19, 3) := by decide +kernel
theorem dX9_type_28 : decode cX9_type 28 = .ok (.iconst 2, 1) := by decide +kernel
theorem dX9_type_29 : decode cX9_type 29 = .ok (.dup2, 1) := by decide +kernel
theorem dX9_type_30 : decode cX9_type 30 = .ok (.iaload, 1) := by decide +kernel
theorem dX9_type_31 : decode cX9_type 31 = .ok (.iconst 1, 1) := by decide +kernel
theorem dX9_type_32 : decode cX9_type 32 = .ok (.iadd, 1) := by decide +kernel
theorem dX9_type_33 : decode cX9_type 33 = .ok (.iastore, 1) := by decide +kernel
theorem dX9_type_34 : decode cX9_type 34 = .ok (.bipush (-4), 2) := by decide +kernel
theorem dX9_type_36 : decode cX9_type 36 = .ok (.ireturn, 1) := by decide +kernel
theorem dX9_type_37 : decode cX9_type 37 = .ok (.aload_n 0, 1) := by decide +kernel
theorem dX9_type_38 : decode cX9_type 38 = .ok (.getfield 22, 3) := by decide +kernel
theorem dX9_type_41 : decode cX9_type 41 = .ok (.aload_n 0, 1) := by decide +kernel
theorem dX9_type_42 : decode cX9_type 42 = .ok (.getfield 60, 3) := by decide +kernel
theorem dX9_type_45 : decode cX9_type 45 = .ok (.iload_n 1, 1) := by decide +kernel
theorem dX9_type_46 : decode cX9_type 46 = .ok (.iastore, 1) := by decide +kernel
theorem dX9_type_47 : decode cX9_type 47 = .ok (.aload_n 0, 1) := by decide +kernel
theorem dX9_type_48 : decode cX9_type 48 = .ok (.dup, 1) := by decide +kernel
theorem dX9_type_49 : decode cX9_type 49 = .ok (.getfield 60, 3) := by decide +kernel
theorem dX9_type_52 : decode cX9_type 52 = .ok (.iconst 1, 1) := by decide +kernel
theorem dX9_type_53 : decode cX9_type 53 = .ok (.iadd, 1) := by decide +kernel
theorem dX9_type_54 : decode cX9_type 54 = .ok (.putfield 60, 3) := by decide +kernel
theorem dX9_type_57 : decode cX9_type 57 = .ok (.aload_n 0, 1) := by decide +kernel
theorem dX9_type_58 : decode cX9_type 58 = .ok (.getfield 60, 3) := by decide +kernel
theorem dX9_type_61 : decode cX9_type 61 = .ok (.ireturn, 1) := by decide +kernel
theorem dX9_clear_0 : decode cX9_clear 0 = .ok (.aload_n 0, 1) := by decide +kernel
theorem dX9_clear_1 : decode cX9_clear 1 = .ok (.getfield 60, 3) := by decide +kernel
theorem dX9_clear_4 : decode cX9_clear 4 = .ok (.istore_n 1, 1) := by decide +kernel
theorem dX9_clear_5 : decode cX9_clear 5 = .ok (.aload_n 0, 1) := by decide +kernel
theorem dX9_clear_6 : decode cX9_clear 6 = .ok (.iconst 0, 1) := by decide +kernel
theorem dX9_clear_7 : decode cX9_clear 7 = .ok (.putfield 60, 3) := by decide +kernel
theorem dX9_clear_10 : decode cX9_clear 10 = .ok (.iload_n 1, 1) := by decide +kernel
theorem dX9_clear_11 : decode cX9_clear 11 = .ok (.ireturn, 1) := by decide +kernel
theorem dX9_put_0 : decode cX9_put 0 = .ok (.iload_n 1, 1) := by decide +kernel
theorem dX9_put_1 : decode cX9_put 1 = .ok (.iload_n 2, 1) := by decide +kernel
theorem dX9_put_2 : decode cX9_put 2 = .ok (.invokestatic 99, 3) := by decide +kernel
theorem dX9_put_5 : decode cX9_put 5 = .ok (.ifCond .ne 8, 3) := by decide +kernel
theorem dX9_put_8 : decode cX9_put 8 = .ok (.aload_n 0, 1) := by decide +kernel
theorem dX9_put_9 : decode cX9_put 9 = .ok (.invokevirtual 95, 3) := by decide +kernel
theorem dX9_put_12 : decode cX9_put 12 = .ok (.ireturn, 1) := by decide +kernel
theorem dX9_put_13 : decode cX9_put 13 = .ok (.aload_n 0, 1) := by decide +kernel
theorem dX9_put_14 : decode cX9_put 14 = .ok (.invokevirtual 102, 3) := by decide +kernel
theorem dX9_put_17 : decode cX9_put 17 = .ok (.ifCond .ne 11, 3) := by decide +kernel
theorem dX9_put_20 : decode cX9_put 20 = .ok (.bipush (-10), 2) := by decide +kernel
theorem dX9_put_22 : decode cX9_put 22 = .ok (.aload_n 0, 1) := by decide +kernel
theorem dX9_put_23 : decode cX9_put 23 = .ok (.getfield 63, 3) := by decide +kernel
theorem dX9_put_26 : decode cX9_put 26 = .ok (.isub, 1) := by decide +kernel
theorem dX9_put_27 : decode cX9_put 27 = .ok (.ireturn, 1) := by decide +kernel
theorem dX9_put_28 : decode cX9_put 28 = .ok (.aload_n 0, 1) := by decide +kernel
theorem dX9_put_29 : decode cX9_put 29 = .ok (.invokevirtual 105, 3) := by decide +kernel
theorem dX9_put_32 : decode cX9_put 32 = .ok (.aload_n 0, 1) := by decide +kernel
theorem dX9_put_33 : decode cX9_put 33 = .ok (.invokevirtual 108, 3) := by decide +kernel
theorem dX9_put_36 : decode cX9_put 36 = .ok (.iconst 0, 1) := by decide +kernel
theorem dX9_put_37 : decode cX9_put 37 = .ok (.istore_n 3, 1) := by decide +kernel
theorem dX9_put_38 : decode cX9_put 38 = .ok (.iload_n 3, 1) := by decide +kernel
theorem dX9_put_39 : decode cX9_put 39 = .ok (.bipush 25, 2) := by decide +kernel
theorem dX9_put_41 : decode cX9_put 41 = .ok (.if_icmp .ge 27, 3) := by decide +kernel
theorem dX9_put_44 : decode cX9_put 44 = .ok (.aload_n 0, 1) := by decide +kernel
theorem dX9_put_45 : decode cX9_put 45 = .ok (.getfield 7, 3) := by decide +kernel
theorem dX9_put_48 : decode cX9_put 48 = .ok (.iload_n 1, 1) := by decide +kernel
theorem dX9_put_49 : decode cX9_put 49 = .ok (.iload_n 2, 1) := by decide +kernel
theorem dX9_put_50 : decode cX9_put 50 = .ok (.invokestatic 111, 3) := by decide +kernel
theorem dX9_put_53 : decode cX9_put 53 = .ok (.iload_n 3, 1) := by decide +kernel
theorem dX9_put_54 : decode cX9_put 54 = .ok (.iadd, 1) := by decide +kernel
theorem dX9_put_55 : decode cX9_put 55 = .ok (.aload_n 0, 1) := by decide +kernel
theorem dX9_put_56 : decode cX9_put 56 = .ok (.getfield 25, 3) := by decide +kernel
theorem dX9_put_59 : decode cX9_put 59 = .ok (.iload_n 3, 1) := by decide +kernel
theorem dX9_put_60 : decode cX9_put 60 = .ok (.iaload, 1) := by decide +kernel
theorem dX9_put_61 : decode cX9_put 61 = .ok (.iastore, 1) := by decide +kernel
theorem dX9_put_62 : decode cX9_put 62 = .ok (.iinc 3 1, 3) := by decide +kernel
theorem dX9_put_65 : decode cX9_put 65 = .ok (.goto (-27), 3) := by decide +kernel
theorem dX9_put_68 : decode cX9_put 68 = .ok (.aload_n 0, 1) := by decide +kernel
theorem dX9_put_69 : decode cX9_put 69 = .ok (.getfield 25, 3) := by decide +kernel
theorem dX9_put_72 : decode cX9_put 72 = .ok (.iconst 0, 1) := by decide +kernel
theorem dX9_put_73 : decode cX9_put 73 = .ok (.iaload, 1) := by decide +kernel
theorem dX9_put_74 : decode cX9_put 74 = .ok (.ireturn, 1) := by decide +kernel
theorem dX9_empties_0 : decode cX9_empties 0 = .ok (.iload_n 1, 1) := by decide +kernel
theorem dX9_empties_1 : decode cX9_empties 1 = .ok (.iload_n 2, 1) := by decide +kernel
theorem dX9_empties_2 : decode cX9_empties 2 = .ok (.invokestatic 99, 3) := by decide +kernel
theorem dX9_empties_5 : decode cX9_empties 5 = .ok (.ifCond .ne 8, 3) := by decide +kernel
theorem dX9_empties_8 : decode cX9_empties 8 = .ok (.aload_n 0, 1) := by decide +kernel
theorem dX9_empties_9 : decode cX9_empties 9 = .ok (.invokevirtual 95, 3) := by decide +kernel
theorem dX9_empties_12 : decode cX9_empties 12 = .ok (.ireturn, 1) := by decide +kernel
theorem dX9_empties_13 : decode cX9_empties 13 = .ok (.aload_n 0, 1) := by decide +kernel
theorem dX9_empties_14 : decode cX9_empties 14 = .ok (.invokevirtual 105, 3) := by decide +kernel
theorem dX9_empties_17 : decode cX9_empties 17 = .ok (.aload_n 0, 1) := by decide +kernel
theorem dX9_empties_18 : decode cX9_empties 18 = .ok (.invokevirtual 108, 3) := by decide +kernel
theorem dX9_empties_21 : decode cX9_empties 21 = .ok (.aload_n 0, 1) := by decide +kernel
theorem dX9_empties_22 : decode cX9_empties 22 = .ok (.getfield 7, 3) := by decide +kernel
theorem dX9_empties_25 : decode cX9_empties 25 = .ok (.iload_n 1, 1) := by decide +kernel
theorem dX9_empties_26 : decode cX9_empties 26 = .ok (.iload_n 2, 1) := by decide +kernel
theorem dX9_empties_27 : decode cX9_empties 27 = .ok (.invokestatic 111, 3) := by decide +kernel
theorem dX9_empties_30 : decode cX9_empties 30 = .ok (.iaload, 1) := by decide +kernel
theorem dX9_empties_31 : decode cX9_empties 31 = .ok (.istore_n 3, 1) := by decide +kernel
theorem dX9_empties_32 : decode cX9_empties 32 = .ok (.aload_n 0, 1) := by decide +kernel
theorem dX9_empties_33 : decode cX9_empties 33 = .ok (.iload_n 1, 1) := by decide +kernel
theorem dX9_empties_34 : decode cX9_empties 34 = .ok (.iload_n 2, 1) := by decide +kernel
theorem dX9_empties_35 : decode cX9_empties 35 = .ok (.invokestatic 111, 3) := by decide +kernel
theorem dX9_empties_38 : decode cX9_empties 38 = .ok (.invokevirtual 115, 3) := by decide +kernel
theorem dX9_empties_41 : decode cX9_empties 41 = .ok (.iload_n 3, 1) := by decide +kernel
theorem dX9_empties_42 : decode cX9_empties 42 = .ok (.ireturn, 1) := by decide +kernel
theorem dX9_cellBy_0 : decode cX9_cellBy 0 = .ok (.iload_n 0, 1) := by decide +kernel
theorem dX9_cellBy_1 : decode cX9_cellBy 1 = .ok (.ifCond .ne 11, 3) := by decide +kernel
theorem dX9_cellBy_4 : decode cX9_cellBy 4 = .ok (.iload_n 2, 1) := by decide +kernel
theorem dX9_cellBy_5 : decode cX9_cellBy 5 = .ok (.iload_n 1, 1) := by decide +kernel
theorem dX9_cellBy_6 : decode cX9_cellBy 6 = .ok (.invokestatic 111, 3) := by decide +kernel
theorem dX9_cellBy_9 : decode cX9_cellBy 9 = .ok (.goto 8, 3) := by decide +kernel
theorem dX9_cellBy_12 : decode cX9_cellBy 12 = .ok (.iload_n 1, 1) := by decide +kernel
theorem dX9_cellBy_13 : decode cX9_cellBy 13 = .ok (.iload_n 2, 1) := by decide +kernel
theorem dX9_cellBy_14 : decode cX9_cellBy 14 = .ok (.invokestatic 111, 3) := by decide +kernel
theorem dX9_cellBy_17 : decode cX9_cellBy 17 = .ok (.ireturn, 1) := by decide +kernel
theorem dX9_lineBehind_0 : decode cX9_lineBehind 0 = .ok (.iload_n 2, 1) := by decide +kernel
theorem dX9_lineBehind_1 : decode cX9_lineBehind 1 = .ok (.ifCond .le 27, 3) := by decide +kernel
theorem dX9_lineBehind_4 : decode cX9_lineBehind 4 = .ok (.iload_n 0, 1) := by decide +kernel
theorem dX9_lineBehind_5 : decode cX9_lineBehind 5 = .ok (.iload_n 1, 1) := by decide +kernel
theorem dX9_lineBehind_6 : decode cX9_lineBehind 6 = .ok (.if_icmp .ge 7, 3) := by decide +kernel
theorem dX9_lineBehind_9 : decode cX9_lineBehind 9 = .ok (.iload_n 0, 1) := by decide +kernel
theorem dX9_lineBehind_10 : decode cX9_lineBehind 10 = .ok (.goto 17, 3) := by decide +kernel
theorem dX9_lineBehind_13 : decode cX9_lineBehind 13 = .ok (.iload_n 0, 1) := by decide +kernel
theorem dX9_lineBehind_14 : decode cX9_lineBehind 14 = .ok (.iload_n 2, 1) := by decide +kernel
theorem dX9_lineBehind_15 : decode cX9_lineBehind 15 = .ok (.iadd, 1) := by decide +kernel
theorem dX9_lineBehind_16 : decode cX9_lineBehind 16 = .ok (.iconst 5, 1) := by decide +kernel
theorem dX9_lineBehind_17 : decode cX9_lineBehind 17 = .ok (.if_icmp .le 7, 3) := by decide +kernel
theorem dX9_lineBehind_20 : decode cX9_lineBehind 20 = .ok (.iconst (-1), 1) := by decide +kernel
theorem dX9_lineBehind_21 : decode cX9_lineBehind 21 = .ok (.goto 6, 3) := by decide +kernel
theorem dX9_lineBehind_24 : decode cX9_lineBehind 24 = .ok (.iload_n 0, 1) := by decide +kernel
theorem dX9_lineBehind_25 : decode cX9_lineBehind 25 = .ok (.iload_n 2, 1) := by decide +kernel
theorem dX9_lineBehind_26 : decode cX9_lineBehind 26 = .ok (.iadd, 1) := by decide +kernel
theorem dX9_lineBehind_27 : decode cX9_lineBehind 27 = .ok (.ireturn, 1) := by decide +kernel
theorem dX9_lineBehind_28 : decode cX9_lineBehind 28 = .ok (.iload_n 0, 1) := by decide +kernel
theorem dX9_lineBehind_29 : decode cX9_lineBehind 29 = .ok (.iload_n 1, 1) := by decide +kernel
theorem dX9_lineBehind_30 : decode cX9_lineBehind 30 = .ok (.if_icmp .ge 7, 3) := by decide +kernel
theorem dX9_lineBehind_33 : decode cX9_lineBehind 33 = .ok (.iload_n 0, 1) := by decide +kernel
theorem dX9_lineBehind_34 : decode cX9_lineBehind 34 = .ok (.goto 17, 3) := by decide +kernel
theorem dX9_lineBehind_37 : decode cX9_lineBehind 37 = .ok (.iload_n 0, 1) := by decide +kernel
theorem dX9_lineBehind_38 : decode cX9_lineBehind 38 = .ok (.iload_n 1, 1) := by decide +kernel
theorem dX9_lineBehind_39 : decode cX9_lineBehind 39 = .ok (.iload_n 2, 1) := by decide +kernel
theorem dX9_lineBehind_40 : decode cX9_lineBehind 40 = .ok (.isub, 1) := by decide +kernel
theorem dX9_lineBehind_41 : decode cX9_lineBehind 41 = .ok (.if_icmp .ge 7, 3) := by decide +kernel
theorem dX9_lineBehind_44 : decode cX9_lineBehind 44 = .ok (.iconst (-1), 1) := by decide +kernel
theorem dX9_lineBehind_45 : decode cX9_lineBehind 45 = .ok (.goto 6, 3) := by decide +kernel
theorem dX9_lineBehind_48 : decode cX9_lineBehind 48 = .ok (.iload_n 0, 1) := by decide +kernel
theorem dX9_lineBehind_49 : decode cX9_lineBehind 49 = .ok (.iload_n 2, 1) := by decide +kernel
theorem dX9_lineBehind_50 : decode cX9_lineBehind 50 = .ok (.iadd, 1) := by decide +kernel
theorem dX9_lineBehind_51 : decode cX9_lineBehind 51 = .ok (.ireturn, 1) := by decide +kernel
theorem dX9_shiftsCells_0 : decode cX9_shiftsCells 0 = .ok (.iconst 0, 1) := by decide +kernel
theorem dX9_shiftsCells_1 : decode cX9_shiftsCells 1 = .ok (.istore 4, 2) := by decide +kernel
theorem dX9_shiftsCells_3 : decode cX9_shiftsCells 3 = .ok (.iload 4, 2) := by decide +kernel
theorem dX9_shiftsCells_5 : decode cX9_shiftsCells 5 = .ok (.bipush 36, 2) := by decide +kernel
theorem dX9_shiftsCells_7 : decode cX9_shiftsCells 7 = .ok (.if_icmp .ge 18, 3) := by decide +kernel
theorem dX9_shiftsCells_10 : decode cX9_shiftsCells 10 = .ok (.aload_n 0, 1) := by decide +kernel
theorem dX9_shiftsCells_11 : decode cX9_shiftsCells 11 = .ok (.bipush 25, 2) := by decide +kernel
theorem dX9_shiftsCells_13 : decode cX9_shiftsCells 13 = .ok (.iload 4, 2) := by decide +kernel
theorem dX9_shiftsCells_15 : decode cX9_shiftsCells 15 = .ok (.imul, 1) := by decide +kernel
theorem dX9_shiftsCells_16 : decode cX9_shiftsCells 16 = .ok (.invokevirtual 115, 3) := by decide +kernel
theorem dX9_shiftsCells_19 : decode cX9_shiftsCells 19 = .ok (.iinc 4 1, 3) := by decide +kernel
theorem dX9_shiftsCells_22 : decode cX9_shiftsCells 22 = .ok (.goto (-19), 3) := by decide +kernel
theorem dX9_shiftsCells_25 : decode cX9_shiftsCells 25 = .ok (.iconst 0, 1) := by decide +kernel
theorem dX9_shiftsCells_26 : decode cX9_shiftsCells 26 = .ok (.istore 4, 2) := by decide +kernel
theorem dX9_shiftsCells_28 : decode cX9_shiftsCells 28 = .ok (.iload 4, 2) := by decide +kernel
theorem dX9_shiftsCells_30 : decode cX9_shiftsCells 30 = .ok (.bipush 6, 2) := by decide +kernel
theorem dX9_shiftsCells_32 : decode cX9_shiftsCells 32 = .ok (.if_icmp .ge 60, 3) := by decide +kernel
theorem dX9_shiftsCells_35 : decode cX9_shiftsCells 35 = .ok (.iload 4, 2) := by decide +kernel
theorem dX9_shiftsCells_37 : decode cX9_shiftsCells 37 = .ok (.iload_n 2, 1) := by decide +kernel
theorem dX9_shiftsCells_38 : decode cX9_shiftsCells 38 = .ok (.iload_n 3, 1) := by decide +kernel
theorem dX9_shiftsCells_39 : decode cX9_shiftsCells 39 = .ok (.invokestatic 119, 3) := by decide +kernel
theorem dX9_shiftsCells_42 : decode cX9_shiftsCells 42 = .ok (.istore 5, 2) := by decide +kernel
theorem dX9_shiftsCells_44 : decode cX9_shiftsCells 44 = .ok (.iconst 0, 1) := by decide +kernel
theorem dX9_shiftsCells_45 : decode cX9_shiftsCells 45 = .ok (.istore 6, 2) := by decide +kernel
theorem dX9_shiftsCells_47 : decode cX9_shiftsCells 47 = .ok (.iload 6, 2) := by decide +kernel
theorem dX9_shiftsCells_49 : decode cX9_shiftsCells 49 = .ok (.bipush 6, 2) := by decide +kernel
theorem dX9_shiftsCells_51 : decode cX9_shiftsCells 51 = .ok (.if_icmp .ge 35, 3) := by decide +kernel
theorem dX9_shiftsCells_54 : decode cX9_shiftsCells 54 = .ok (.iload 5, 2) := by decide +kernel
theorem dX9_shiftsCells_56 : decode cX9_shiftsCells 56 = .ok (.iconst (-1), 1) := by decide +kernel
theorem dX9_shiftsCells_57 : decode cX9_shiftsCells 57 = .ok (.if_icmp .eq 29, 3) := by decide +kernel
theorem dX9_shiftsCells_60 : decode cX9_shiftsCells 60 = .ok (.aload_n 0, 1) := by decide +kernel
theorem dX9_shiftsCells_61 : decode cX9_shiftsCells 61 = .ok (.iload_n 1, 1) := by decide +kernel
theorem dX9_shiftsCells_62 : decode cX9_shiftsCells 62 = .ok (.iload 5, 2) := by decide +kernel
theorem dX9_shiftsCells_64 : decode cX9_shiftsCells 64 = .ok (.iload 6, 2) := by decide +kernel
theorem dX9_shiftsCells_66 : decode cX9_shiftsCells 66 = .ok (.invokestatic 123, 3) := by decide +kernel
theorem dX9_shiftsCells_69 : decode cX9_shiftsCells 69 = .ok (.iload_n 1, 1) := by decide +kernel
theorem dX9_shiftsCells_70 : decode cX9_shiftsCells 70 = .ok (.iload 4, 2) := by decide +kernel
theorem dX9_shiftsCells_72 : decode cX9_shiftsCells 72 = .ok (.iload 6, 2) := by decide +kernel
theorem dX9_shiftsCells_74 : decode cX9_shiftsCells 74 = .ok (.invokestatic 123, 3) := by decide +kernel
theorem dX9_shiftsCells_77 : decode cX9_shiftsCells 77 = .ok (.invokevirtual 126, 3) := by decide +kernel
theorem dX9_shiftsCells_80 : decode cX9_shiftsCells 80 = .ok (.iinc 6 1, 3) := by decide +kernel
theorem dX9_shiftsCells_83 : decode cX9_shiftsCells 83 = .ok (.goto (-36), 3) := by decide +kernel
theorem dX9_shiftsCells_86 : decode cX9_shiftsCells 86 = .ok (.iinc 4 1, 3) := by decide +kernel
theorem dX9_shiftsCells_89 : decode cX9_shiftsCells 89 = .ok (.goto (-61), 3) := by decide +kernel
theorem dX9_shiftsCells_92 : decode cX9_shiftsCells 92 = .ok (.return_, 1) := by decide +kernel
theorem dX9_shiftsPlace_0 : decode cX9_shiftsPlace 0 = .ok (.aload_n 0, 1) := by decide +kernel
theorem dX9_shiftsPlace_1 : decode cX9_shiftsPlace 1 = .ok (.getfield 7, 3) := by decide +kernel
theorem dX9_shiftsPlace_4 : decode cX9_shiftsPlace 4 = .ok (.iload_n 1, 1) := by decide +kernel
theorem dX9_shiftsPlace_5 : decode cX9_shiftsPlace 5 = .ok (.iload_n 2, 1) := by decide +kernel
theorem dX9_shiftsPlace_6 : decode cX9_shiftsPlace 6 = .ok (.iadd, 1) := by decide +kernel
theorem dX9_shiftsPlace_7 : decode cX9_shiftsPlace 7 = .ok (.iaload, 1) := by decide +kernel
theorem dX9_shiftsPlace_8 : decode cX9_shiftsPlace 8 = .ok (.iload_n 3, 1) := by decide +kernel
theorem dX9_shiftsPlace_9 : decode cX9_shiftsPlace 9 = .ok (.iload 4, 2) := by decide +kernel
theorem dX9_shiftsPlace_11 : decode cX9_shiftsPlace 11 = .ok (.invokestatic 119, 3) := by decide +kernel
theorem dX9_shiftsPlace_14 : decode cX9_shiftsPlace 14 = .ok (.istore 5, 2) := by decide +kernel
theorem dX9_shiftsPlace_16 : decode cX9_shiftsPlace 16 = .ok (.iload 5, 2) := by decide +kernel
theorem dX9_shiftsPlace_18 : decode cX9_shiftsPlace 18 = .ok (.iconst (-1), 1) := by decide +kernel
theorem dX9_shiftsPlace_19 : decode cX9_shiftsPlace 19 = .ok (.if_icmp .ne 11, 3) := by decide +kernel
theorem dX9_shiftsPlace_22 : decode cX9_shiftsPlace 22 = .ok (.aload_n 0, 1) := by decide +kernel
theorem dX9_shiftsPlace_23 : decode cX9_shiftsPlace 23 = .ok (.iload_n 1, 1) := by decide +kernel
theorem dX9_shiftsPlace_24 : decode cX9_shiftsPlace 24 = .ok (.invokevirtual 130, 3) := by decide +kernel
theorem dX9_shiftsPlace_27 : decode cX9_shiftsPlace 27 = .ok (.goto 13, 3) := by decide +kernel
theorem dX9_shiftsPlace_30 : decode cX9_shiftsPlace 30 = .ok (.aload_n 0, 1) := by decide +kernel
theorem dX9_shiftsPlace_31 : decode cX9_shiftsPlace 31 = .ok (.getfield 7, 3) := by decide +kernel
theorem dX9_shiftsPlace_34 : decode cX9_shiftsPlace 34 = .ok (.iload_n 1, 1) := by decide +kernel
theorem dX9_shiftsPlace_35 : decode cX9_shiftsPlace 35 = .ok (.iload_n 2, 1) := by decide +kernel
theorem dX9_shiftsPlace_36 : decode cX9_shiftsPlace 36 = .ok (.iadd, 1) := by decide +kernel
theorem dX9_shiftsPlace_37 : decode cX9_shiftsPlace 37 = .ok (.iload 5, 2) := by decide +kernel
theorem dX9_shiftsPlace_39 : decode cX9_shiftsPlace 39 = .ok (.iastore, 1) := by decide +kernel
theorem dX9_shiftsPlace_40 : decode cX9_shiftsPlace 40 = .ok (.return_, 1) := by decide +kernel
theorem dX9_shiftsBlock_0 : decode cX9_shiftsBlock 0 = .ok (.aload_n 0, 1) := by decide +kernel
theorem dX9_shiftsBlock_1 : decode cX9_shiftsBlock 1 = .ok (.getfield 7, 3) := by decide +kernel
theorem dX9_shiftsBlock_4 : decode cX9_shiftsBlock 4 = .ok (.iload_n 1, 1) := by decide +kernel
theorem dX9_shiftsBlock_5 : decode cX9_shiftsBlock 5 = .ok (.iload_n 2, 1) := by decide +kernel
theorem dX9_shiftsBlock_6 : decode cX9_shiftsBlock 6 = .ok (.iadd, 1) := by decide +kernel
theorem dX9_shiftsBlock_7 : decode cX9_shiftsBlock 7 = .ok (.iaload, 1) := by decide +kernel
theorem dX9_shiftsBlock_8 : decode cX9_shiftsBlock 8 = .ok (.istore 5, 2) := by decide +kernel
theorem dX9_shiftsBlock_10 : decode cX9_shiftsBlock 10 = .ok (.aload_n 0, 1) := by decide +kernel
theorem dX9_shiftsBlock_11 : decode cX9_shiftsBlock 11 = .ok (.getfield 7, 3) := by decide +kernel
theorem dX9_shiftsBlock_14 : decode cX9_shiftsBlock 14 = .ok (.iload_n 1, 1) := by decide +kernel
theorem dX9_shiftsBlock_15 : decode cX9_shiftsBlock 15 = .ok (.iload_n 2, 1) := by decide +kernel
theorem dX9_shiftsBlock_16 : decode cX9_shiftsBlock 16 = .ok (.iadd, 1) := by decide +kernel
theorem dX9_shiftsBlock_17 : decode cX9_shiftsBlock 17 = .ok (.iconst 2, 1) := by decide +kernel
theorem dX9_shiftsBlock_18 : decode cX9_shiftsBlock 18 = .ok (.iadd, 1) := by decide +kernel
theorem dX9_shiftsBlock_19 : decode cX9_shiftsBlock 19 = .ok (.iaload, 1) := by decide +kernel
theorem dX9_shiftsBlock_20 : decode cX9_shiftsBlock 20 = .ok (.istore 6, 2) := by decide +kernel
theorem dX9_shiftsBlock_22 : decode cX9_shiftsBlock 22 = .ok (.iload 4, 2) := by decide +kernel
theorem dX9_shiftsBlock_24 : decode cX9_shiftsBlock 24 = .ok (.ifCond .le 54, 3) := by decide +kernel
theorem dX9_shiftsBlock_27 : decode cX9_shiftsBlock 27 = .ok (.iload 5, 2) := by decide +kernel
theorem dX9_shiftsBlock_29 : decode cX9_shiftsBlock 29 = .ok (.iload 5, 2) := by decide +kernel
theorem dX9_shiftsBlock_31 : decode cX9_shiftsBlock 31 = .ok (.iload_n 3, 1) := by decide +kernel
theorem dX9_shiftsBlock_32 : decode cX9_shiftsBlock 32 = .ok (.if_icmp .lt 8, 3) := by decide +kernel
theorem dX9_shiftsBlock_35 : decode cX9_shiftsBlock 35 = .ok (.iload 4, 2) := by decide +kernel
theorem dX9_shiftsBlock_37 : decode cX9_shiftsBlock 37 = .ok (.goto 4, 3) := by decide +kernel
theorem dX9_shiftsBlock_40 : decode cX9_shiftsBlock 40 = .ok (.iconst 0, 1) := by decide +kernel
theorem dX9_shiftsBlock_41 : decode cX9_shiftsBlock 41 = .ok (.iadd, 1) := by decide +kernel
theorem dX9_shiftsBlock_42 : decode cX9_shiftsBlock 42 = .ok (.istore 5, 2) := by decide +kernel
theorem dX9_shiftsBlock_44 : decode cX9_shiftsBlock 44 = .ok (.iload 6, 2) := by decide +kernel
theorem dX9_shiftsBlock_46 : decode cX9_shiftsBlock 46 = .ok (.iload 6, 2) := by decide +kernel
theorem dX9_shiftsBlock_48 : decode cX9_shiftsBlock 48 = .ok (.iload_n 3, 1) := by decide +kernel
theorem dX9_shiftsBlock_49 : decode cX9_shiftsBlock 49 = .ok (.if_icmp .lt 8, 3) := by decide +kernel
theorem dX9_shiftsBlock_52 : decode cX9_shiftsBlock 52 = .ok (.iload 4, 2) := by decide +kernel
theorem dX9_shiftsBlock_54 : decode cX9_shiftsBlock 54 = .ok (.goto 4, 3) := by decide +kernel
theorem dX9_shiftsBlock_57 : decode cX9_shiftsBlock 57 = .ok (.iconst 0, 1) := by decide +kernel
theorem dX9_shiftsBlock_58 : decode cX9_shiftsBlock 58 = .ok (.iadd, 1) := by decide +kernel
theorem dX9_shiftsBlock_59 : decode cX9_shiftsBlock 59 = .ok (.istore 6, 2) := by decide +kernel
theorem dX9_shiftsBlock_61 : decode cX9_shiftsBlock 61 = .ok (.iload 6, 2) := by decide +kernel
theorem dX9_shiftsBlock_63 : decode cX9_shiftsBlock 63 = .ok (.iconst 5, 1) := by decide +kernel
theorem dX9_shiftsBlock_64 : decode cX9_shiftsBlock 64 = .ok (.if_icmp .le 7, 3) := by decide +kernel
theorem dX9_shiftsBlock_67 : decode cX9_shiftsBlock 67 = .ok (.iconst 5, 1) := by decide +kernel
theorem dX9_shiftsBlock_68 : decode cX9_shiftsBlock 68 = .ok (.goto 5, 3) := by decide +kernel
theorem dX9_shiftsBlock_71 : decode cX9_shiftsBlock 71 = .ok (.iload 6, 2) := by decide +kernel
theorem dX9_shiftsBlock_73 : decode cX9_shiftsBlock 73 = .ok (.istore 6, 2) := by decide +kernel
theorem dX9_shiftsBlock_75 : decode cX9_shiftsBlock 75 = .ok (.goto 67, 3) := by decide +kernel
theorem dX9_shiftsBlock_78 : decode cX9_shiftsBlock 78 = .ok (.iload 5, 2) := by decide +kernel
theorem dX9_shiftsBlock_80 : decode cX9_shiftsBlock 80 = .ok (.iload_n 3, 1) := by decide +kernel
theorem dX9_shiftsBlock_81 : decode cX9_shiftsBlock 81 = .ok (.if_icmp .ge 8, 3) := by decide +kernel
theorem dX9_shiftsBlock_84 : decode cX9_shiftsBlock 84 = .ok (.iload 5, 2) := by decide +kernel
theorem dX9_shiftsBlock_86 : decode cX9_shiftsBlock 86 = .ok (.goto 21, 3) := by decide +kernel
theorem dX9_shiftsBlock_89 : decode cX9_shiftsBlock 89 = .ok (.iload 5, 2) := by decide +kernel
theorem dX9_shiftsBlock_91 : decode cX9_shiftsBlock 91 = .ok (.iload_n 3, 1) := by decide +kernel
theorem dX9_shiftsBlock_92 : decode cX9_shiftsBlock 92 = .ok (.iload 4, 2) := by decide +kernel
theorem dX9_shiftsBlock_94 : decode cX9_shiftsBlock 94 = .ok (.isub, 1) := by decide +kernel
theorem dX9_shiftsBlock_95 : decode cX9_shiftsBlock 95 = .ok (.if_icmp .ge 7, 3) := by decide +kernel
theorem dX9_shiftsBlock_98 : decode cX9_shiftsBlock 98 = .ok (.iload_n 3, 1) := by decide +kernel
theorem dX9_shiftsBlock_99 : decode cX9_shiftsBlock 99 = .ok (.goto 8, 3) := by decide +kernel
theorem dX9_shiftsBlock_102 : decode cX9_shiftsBlock 102 = .ok (.iload 5, 2) := by decide +kernel
theorem dX9_shiftsBlock_104 : decode cX9_shiftsBlock 104 = .ok (.iload 4, 2) := by decide +kernel
theorem dX9_shiftsBlock_106 : decode cX9_shiftsBlock 106 = .ok (.iadd, 1) := by decide +kernel
theorem dX9_shiftsBlock_107 : decode cX9_shiftsBlock 107 = .ok (.istore 5, 2) := by decide +kernel
theorem dX9_shiftsBlock_109 : decode cX9_shiftsBlock 109 = .ok (.iload 6, 2) := by decide +kernel
theorem dX9_shiftsBlock_111 : decode cX9_shiftsBlock 111 = .ok (.iload_n 3, 1) := by decide +kernel
theorem dX9_shiftsBlock_112 : decode cX9_shiftsBlock 112 = .ok (.if_icmp .ge 8, 3) := by decide +kernel
theorem dX9_shiftsBlock_115 : decode cX9_shiftsBlock 115 = .ok (.iload 6, 2) := by decide +kernel
theorem dX9_shiftsBlock_117 : decode cX9_shiftsBlock 117 = .ok (.goto 23, 3) := by decide +kernel
theorem dX9_shiftsBlock_120 : decode cX9_shiftsBlock 120 = .ok (.iload 6, 2) := by decide +kernel
theorem dX9_shiftsBlock_122 : decode cX9_shiftsBlock 122 = .ok (.iload_n 3, 1) := by decide +kernel
theorem dX9_shiftsBlock_123 : decode cX9_shiftsBlock 123 = .ok (.iload 4, 2) := by decide +kernel
theorem dX9_shiftsBlock_125 : decode cX9_shiftsBlock 125 = .ok (.isub, 1) := by decide +kernel
theorem dX9_shiftsBlock_126 : decode cX9_shiftsBlock 126 = .ok (.if_icmp .ge 9, 3) := by decide +kernel
theorem dX9_shiftsBlock_129 : decode cX9_shiftsBlock 129 = .ok (.iload_n 3, 1) := by decide +kernel
theorem dX9_shiftsBlock_130 : decode cX9_shiftsBlock 130 = .ok (.iconst 1, 1) := by decide +kernel
theorem dX9_shiftsBlock_131 : decode cX9_shiftsBlock 131 = .ok (.isub, 1) := by decide +kernel
theorem dX9_shiftsBlock_132 : decode cX9_shiftsBlock 132 = .ok (.goto 8, 3) := by decide +kernel
theorem dX9_shiftsBlock_135 : decode cX9_shiftsBlock 135 = .ok (.iload 6, 2) := by decide +kernel
theorem dX9_shiftsBlock_137 : decode cX9_shiftsBlock 137 = .ok (.iload 4, 2) := by decide +kernel
theorem dX9_shiftsBlock_139 : decode cX9_shiftsBlock 139 = .ok (.iadd, 1) := by decide +kernel
theorem dX9_shiftsBlock_140 : decode cX9_shiftsBlock 140 = .ok (.istore 6, 2) := by decide +kernel
theorem dX9_shiftsBlock_142 : decode cX9_shiftsBlock 142 = .ok (.iload 5, 2) := by decide +kernel
theorem dX9_shiftsBlock_144 : decode cX9_shiftsBlock 144 = .ok (.iconst 5, 1) := by decide +kernel
theorem dX9_shiftsBlock_145 : decode cX9_shiftsBlock 145 = .ok (.if_icmp .gt 10, 3) := by decide +kernel
theorem dX9_shiftsBlock_148 : decode cX9_shiftsBlock 148 = .ok (.iload 6, 2) := by decide +kernel
theorem dX9_shiftsBlock_150 : decode cX9_shiftsBlock 150 = .ok (.iload 5, 2) := by decide +kernel
theorem dX9_shiftsBlock_152 : decode cX9_shiftsBlock 152 = .ok (.if_icmp .ge 11, 3) := by decide +kernel
theorem dX9_shiftsBlock_155 : decode cX9_shiftsBlock 155 = .ok (.aload_n 0, 1) := by decide +kernel
theorem dX9_shiftsBlock_156 : decode cX9_shiftsBlock 156 = .ok (.iload_n 1, 1) := by decide +kernel
theorem dX9_shiftsBlock_157 : decode cX9_shiftsBlock 157 = .ok (.invokevirtual 130, 3) := by decide +kernel
theorem dX9_shiftsBlock_160 : decode cX9_shiftsBlock 160 = .ok (.goto 25, 3) := by decide +kernel
theorem dX9_shiftsBlock_163 : decode cX9_shiftsBlock 163 = .ok (.aload_n 0, 1) := by decide +kernel
theorem dX9_shiftsBlock_164 : decode cX9_shiftsBlock 164 = .ok (.getfield 7, 3) := by decide +kernel
theorem dX9_shiftsBlock_167 : decode cX9_shiftsBlock 167 = .ok (.iload_n 1, 1) := by decide +kernel
theorem dX9_shiftsBlock_168 : decode cX9_shiftsBlock 168 = .ok (.iload_n 2, 1) := by decide +kernel
theorem dX9_shiftsBlock_169 : decode cX9_shiftsBlock 169 = .ok (.iadd, 1) := by decide +kernel
theorem dX9_shiftsBlock_170 : decode cX9_shiftsBlock 170 = .ok (.iload 5, 2) := by decide +kernel
theorem dX9_shiftsBlock_172 : decode cX9_shiftsBlock 172 = .ok (.iastore, 1) := by decide +kernel
theorem dX9_shiftsBlock_173 : decode cX9_shiftsBlock 173 = .ok (.aload_n 0, 1) := by decide +kernel
theorem dX9_shiftsBlock_174 : decode cX9_shiftsBlock 174 = .ok (.getfield 7, 3) := by decide +kernel
theorem dX9_shiftsBlock_177 : decode cX9_shiftsBlock 177 = .ok (.iload_n 1, 1) := by decide +kernel
theorem dX9_shiftsBlock_178 : decode cX9_shiftsBlock 178 = .ok (.iload_n 2, 1) := by decide +kernel
theorem dX9_shiftsBlock_179 : decode cX9_shiftsBlock 179 = .ok (.iadd, 1) := by decide +kernel
theorem dX9_shiftsBlock_180 : decode cX9_shiftsBlock 180 = .ok (.iconst 2, 1) := by decide +kernel
theorem dX9_shiftsBlock_181 : decode cX9_shiftsBlock 181 = .ok (.iadd, 1) := by decide +kernel
theorem dX9_shiftsBlock_182 : decode cX9_shiftsBlock 182 = .ok (.iload 6, 2) := by decide +kernel
theorem dX9_shiftsBlock_184 : decode cX9_shiftsBlock 184 = .ok (.iastore, 1) := by decide +kernel
theorem dX9_shiftsBlock_185 : decode cX9_shiftsBlock 185 = .ok (.return_, 1) := by decide +kernel
theorem dX9_shifts_0 : decode cX9_shifts 0 = .ok (.aload_n 0, 1) := by decide +kernel
theorem dX9_shifts_1 : decode cX9_shifts 1 = .ok (.iload_n 1, 1) := by decide +kernel
theorem dX9_shifts_2 : decode cX9_shifts 2 = .ok (.iload_n 2, 1) := by decide +kernel
theorem dX9_shifts_3 : decode cX9_shifts 3 = .ok (.iload_n 3, 1) := by decide +kernel
theorem dX9_shifts_4 : decode cX9_shifts 4 = .ok (.invokevirtual 133, 3) := by decide +kernel
theorem dX9_shifts_7 : decode cX9_shifts 7 = .ok (.iload_n 1, 1) := by decide +kernel
theorem dX9_shifts_8 : decode cX9_shifts 8 = .ok (.ifCond .ne 7, 3) := by decide +kernel
theorem dX9_shifts_11 : decode cX9_shifts 11 = .ok (.iconst 2, 1) := by decide +kernel
theorem dX9_shifts_12 : decode cX9_shifts 12 = .ok (.goto 4, 3) := by decide +kernel
theorem dX9_shifts_15 : decode cX9_shifts 15 = .ok (.iconst 1, 1) := by decide +kernel
theorem dX9_shifts_16 : decode cX9_shifts 16 = .ok (.istore 4, 2) := by decide +kernel
theorem dX9_shifts_18 : decode cX9_shifts 18 = .ok (.iconst 0, 1) := by decide +kernel
theorem dX9_shifts_19 : decode cX9_shifts 19 = .ok (.istore 5, 2) := by decide +kernel
theorem dX9_shifts_21 : decode cX9_shifts 21 = .ok (.iload 5, 2) := by decide +kernel
theorem dX9_shifts_23 : decode cX9_shifts 23 = .ok (.bipush 36, 2) := by decide +kernel
theorem dX9_shifts_25 : decode cX9_shifts 25 = .ok (.if_icmp .ge 94, 3) := by decide +kernel
theorem dX9_shifts_28 : decode cX9_shifts 28 = .ok (.iconst 0, 1) := by decide +kernel
theorem dX9_shifts_29 : decode cX9_shifts 29 = .ok (.istore 6, 2) := by decide +kernel
theorem dX9_shifts_31 : decode cX9_shifts 31 = .ok (.iload 6, 2) := by decide +kernel
theorem dX9_shifts_33 : decode cX9_shifts 33 = .ok (.aload_n 0, 1) := by decide +kernel
theorem dX9_shifts_34 : decode cX9_shifts 34 = .ok (.getfield 7, 3) := by decide +kernel
theorem dX9_shifts_37 : decode cX9_shifts 37 = .ok (.bipush 25, 2) := by decide +kernel
theorem dX9_shifts_39 : decode cX9_shifts 39 = .ok (.iload 5, 2) := by decide +kernel
theorem dX9_shifts_41 : decode cX9_shifts 41 = .ok (.imul, 1) := by decide +kernel
theorem dX9_shifts_42 : decode cX9_shifts 42 = .ok (.iaload, 1) := by decide +kernel
theorem dX9_shifts_43 : decode cX9_shifts 43 = .ok (.if_icmp .ge 70, 3) := by decide +kernel
theorem dX9_shifts_46 : decode cX9_shifts 46 = .ok (.bipush 25, 2) := by decide +kernel
theorem dX9_shifts_48 : decode cX9_shifts 48 = .ok (.iload 5, 2) := by decide +kernel
theorem dX9_shifts_50 : decode cX9_shifts 50 = .ok (.imul, 1) := by decide +kernel
theorem dX9_shifts_51 : decode cX9_shifts 51 = .ok (.iload 6, 2) := by decide +kernel
theorem dX9_shifts_53 : decode cX9_shifts 53 = .ok (.invokestatic 137, 3) := by decide +kernel
theorem dX9_shifts_56 : decode cX9_shifts 56 = .ok (.istore 7, 2) := by decide +kernel
theorem dX9_shifts_58 : decode cX9_shifts 58 = .ok (.aload_n 0, 1) := by decide +kernel
theorem dX9_shifts_59 : decode cX9_shifts 59 = .ok (.getfield 7, 3) := by decide +kernel
theorem dX9_shifts_62 : decode cX9_shifts 62 = .ok (.iload 7, 2) := by decide +kernel
theorem dX9_shifts_64 : decode cX9_shifts 64 = .ok (.iconst 0, 1) := by decide +kernel
theorem dX9_shifts_65 : decode cX9_shifts 65 = .ok (.iadd, 1) := by decide +kernel
theorem dX9_shifts_66 : decode cX9_shifts 66 = .ok (.iaload, 1) := by decide +kernel
theorem dX9_shifts_67 : decode cX9_shifts 67 = .ok (.iconst 1, 1) := by decide +kernel
theorem dX9_shifts_68 : decode cX9_shifts 68 = .ok (.if_icmp .ne 16, 3) := by decide +kernel
theorem dX9_shifts_71 : decode cX9_shifts 71 = .ok (.aload_n 0, 1) := by decide +kernel
theorem dX9_shifts_72 : decode cX9_shifts 72 = .ok (.iload 7, 2) := by decide +kernel
theorem dX9_shifts_74 : decode cX9_shifts 74 = .ok (.iload 4, 2) := by decide +kernel
theorem dX9_shifts_76 : decode cX9_shifts 76 = .ok (.iload_n 2, 1) := by decide +kernel
theorem dX9_shifts_77 : decode cX9_shifts 77 = .ok (.iload_n 3, 1) := by decide +kernel
theorem dX9_shifts_78 : decode cX9_shifts 78 = .ok (.invokevirtual 140, 3) := by decide +kernel
theorem dX9_shifts_81 : decode cX9_shifts 81 = .ok (.goto 26, 3) := by decide +kernel
theorem dX9_shifts_84 : decode cX9_shifts 84 = .ok (.aload_n 0, 1) := by decide +kernel
theorem dX9_shifts_85 : decode cX9_shifts 85 = .ok (.getfield 7, 3) := by decide +kernel
theorem dX9_shifts_88 : decode cX9_shifts 88 = .ok (.iload 7, 2) := by decide +kernel
theorem dX9_shifts_90 : decode cX9_shifts 90 = .ok (.iconst 0, 1) := by decide +kernel
theorem dX9_shifts_91 : decode cX9_shifts 91 = .ok (.iadd, 1) := by decide +kernel
theorem dX9_shifts_92 : decode cX9_shifts 92 = .ok (.iaload, 1) := by decide +kernel
theorem dX9_shifts_93 : decode cX9_shifts 93 = .ok (.iconst 2, 1) := by decide +kernel
theorem dX9_shifts_94 : decode cX9_shifts 94 = .ok (.if_icmp .ne 13, 3) := by decide +kernel
theorem dX9_shifts_97 : decode cX9_shifts 97 = .ok (.aload_n 0, 1) := by decide +kernel
theorem dX9_shifts_98 : decode cX9_shifts 98 = .ok (.iload 7, 2) := by decide +kernel
theorem dX9_shifts_100 : decode cX9_shifts 100 = .ok (.iload 4, 2) := by decide +kernel
theorem dX9_shifts_102 : decode cX9_shifts 102 = .ok (.iload_n 2, 1) := by decide +kernel
theorem dX9_shifts_103 : decode cX9_shifts 103 = .ok (.iload_n 3, 1) := by decide +kernel
theorem dX9_shifts_104 : decode cX9_shifts 104 = .ok (.invokevirtual 144, 3) := by decide +kernel
theorem dX9_shifts_107 : decode cX9_shifts 107 = .ok (.iinc 6 1, 3) := by decide +kernel
theorem dX9_shifts_110 : decode cX9_shifts 110 = .ok (.goto (-79), 3) := by decide +kernel
theorem dX9_shifts_113 : decode cX9_shifts 113 = .ok (.iinc 5 1, 3) := by decide +kernel
theorem dX9_shifts_116 : decode cX9_shifts 116 = .ok (.goto (-95), 3) := by decide +kernel
theorem dX9_shifts_119 : decode cX9_shifts 119 = .ok (.return_, 1) := by decide +kernel
theorem dX9_wouldLose_0 : decode cX9_wouldLose 0 = .ok (.iconst 0, 1) := by decide +kernel
theorem dX9_wouldLose_1 : decode cX9_wouldLose 1 = .ok (.istore 4, 2) := by decide +kernel
theorem dX9_wouldLose_3 : decode cX9_wouldLose 3 = .ok (.iload_n 2, 1) := by decide +kernel
theorem dX9_wouldLose_4 : decode cX9_wouldLose 4 = .ok (.istore 5, 2) := by decide +kernel
theorem dX9_wouldLose_6 : decode cX9_wouldLose 6 = .ok (.iload 5, 2) := by decide +kernel
theorem dX9_wouldLose_8 : decode cX9_wouldLose 8 = .ok (.bipush 6, 2) := by decide +kernel
theorem dX9_wouldLose_10 : decode cX9_wouldLose 10 = .ok (.if_icmp .ge 61, 3) := by decide +kernel
theorem dX9_wouldLose_13 : decode cX9_wouldLose 13 = .ok (.iconst 0, 1) := by decide +kernel
theorem dX9_wouldLose_14 : decode cX9_wouldLose 14 = .ok (.istore 6, 2) := by decide +kernel
theorem dX9_wouldLose_16 : decode cX9_wouldLose 16 = .ok (.iload 6, 2) := by decide +kernel
theorem dX9_wouldLose_18 : decode cX9_wouldLose 18 = .ok (.bipush 6, 2) := by decide +kernel
theorem dX9_wouldLose_20 : decode cX9_wouldLose 20 = .ok (.if_icmp .ge 45, 3) := by decide +kernel
theorem dX9_wouldLose_23 : decode cX9_wouldLose 23 = .ok (.iload 4, 2) := by decide +kernel
theorem dX9_wouldLose_25 : decode cX9_wouldLose 25 = .ok (.ifCond .ne 27, 3) := by decide +kernel
theorem dX9_wouldLose_28 : decode cX9_wouldLose 28 = .ok (.iload 5, 2) := by decide +kernel
theorem dX9_wouldLose_30 : decode cX9_wouldLose 30 = .ok (.iload_n 3, 1) := by decide +kernel
theorem dX9_wouldLose_31 : decode cX9_wouldLose 31 = .ok (.iadd, 1) := by decide +kernel
theorem dX9_wouldLose_32 : decode cX9_wouldLose 32 = .ok (.iconst 5, 1) := by decide +kernel
theorem dX9_wouldLose_33 : decode cX9_wouldLose 33 = .ok (.if_icmp .le 23, 3) := by decide +kernel
theorem dX9_wouldLose_36 : decode cX9_wouldLose 36 = .ok (.aload_n 0, 1) := by decide +kernel
theorem dX9_wouldLose_37 : decode cX9_wouldLose 37 = .ok (.getfield 7, 3) := by decide +kernel
theorem dX9_wouldLose_40 : decode cX9_wouldLose 40 = .ok (.iload_n 1, 1) := by decide +kernel
theorem dX9_wouldLose_41 : decode cX9_wouldLose 41 = .ok (.iload 5, 2) := by decide +kernel
theorem dX9_wouldLose_43 : decode cX9_wouldLose 43 = .ok (.iload 6, 2) := by decide +kernel
theorem dX9_wouldLose_45 : decode cX9_wouldLose 45 = .ok (.invokestatic 123, 3) := by decide +kernel
theorem dX9_wouldLose_48 : decode cX9_wouldLose 48 = .ok (.iaload, 1) := by decide +kernel
theorem dX9_wouldLose_49 : decode cX9_wouldLose 49 = .ok (.ifCond .le 7, 3) := by decide +kernel
theorem dX9_wouldLose_52 : decode cX9_wouldLose 52 = .ok (.iconst 1, 1) := by decide +kernel
theorem dX9_wouldLose_53 : decode cX9_wouldLose 53 = .ok (.goto 4, 3) := by decide +kernel
theorem dX9_wouldLose_56 : decode cX9_wouldLose 56 = .ok (.iconst 0, 1) := by decide +kernel
theorem dX9_wouldLose_57 : decode cX9_wouldLose 57 = .ok (.istore 4, 2) := by decide +kernel
theorem dX9_wouldLose_59 : decode cX9_wouldLose 59 = .ok (.iinc 6 1, 3) := by decide +kernel
theorem dX9_wouldLose_62 : decode cX9_wouldLose 62 = .ok (.goto (-46), 3) := by decide +kernel
theorem dX9_wouldLose_65 : decode cX9_wouldLose 65 = .ok (.iinc 5 1, 3) := by decide +kernel
theorem dX9_wouldLose_68 : decode cX9_wouldLose 68 = .ok (.goto (-62), 3) := by decide +kernel
theorem dX9_wouldLose_71 : decode cX9_wouldLose 71 = .ok (.iload 4, 2) := by decide +kernel
theorem dX9_wouldLose_73 : decode cX9_wouldLose 73 = .ok (.ireturn, 1) := by decide +kernel
theorem dX9_comes_0 : decode cX9_comes 0 = .ok (.iload_n 1, 1) := by decide +kernel
theorem dX9_comes_1 : decode cX9_comes 1 = .ok (.iconst 0, 1) := by decide +kernel
theorem dX9_comes_2 : decode cX9_comes 2 = .ok (.iconst 1, 1) := by decide +kernel
theorem dX9_comes_3 : decode cX9_comes 3 = .ok (.invokestatic 53, 3) := by decide +kernel
theorem dX9_comes_6 : decode cX9_comes 6 = .ok (.ifCond .eq 22, 3) := by decide +kernel
theorem dX9_comes_9 : decode cX9_comes 9 = .ok (.iload_n 2, 1) := by decide +kernel
theorem dX9_comes_10 : decode cX9_comes 10 = .ok (.iconst 0, 1) := by decide +kernel
theorem dX9_comes_11 : decode cX9_comes 11 = .ok (.iconst 5, 1) := by decide +kernel
theorem dX9_comes_12 : decode cX9_comes 12 = .ok (.invokestatic 53, 3) := by decide +kernel
theorem dX9_comes_15 : decode cX9_comes 15 = .ok (.ifCond .eq 13, 3) := by decide +kernel
theorem dX9_comes_18 : decode cX9_comes 18 = .ok (.iload_n 3, 1) := by decide +kernel
theorem dX9_comes_19 : decode cX9_comes 19 = .ok (.iconst 1, 1) := by decide +kernel
theorem dX9_comes_20 : decode cX9_comes 20 = .ok (.bipush 6, 2) := by decide +kernel
theorem dX9_comes_22 : decode cX9_comes 22 = .ok (.invokestatic 53, 3) := by decide +kernel
theorem dX9_comes_25 : decode cX9_comes 25 = .ok (.ifCond .ne 8, 3) := by decide +kernel
theorem dX9_comes_28 : decode cX9_comes 28 = .ok (.aload_n 0, 1) := by decide +kernel
theorem dX9_comes_29 : decode cX9_comes 29 = .ok (.invokevirtual 95, 3) := by decide +kernel
theorem dX9_comes_32 : decode cX9_comes 32 = .ok (.ireturn, 1) := by decide +kernel
theorem dX9_comes_33 : decode cX9_comes 33 = .ok (.aload_n 0, 1) := by decide +kernel
theorem dX9_comes_34 : decode cX9_comes 34 = .ok (.iload_n 1, 1) := by decide +kernel
theorem dX9_comes_35 : decode cX9_comes 35 = .ok (.iload_n 2, 1) := by decide +kernel
theorem dX9_comes_36 : decode cX9_comes 36 = .ok (.iload_n 3, 1) := by decide +kernel
theorem dX9_comes_37 : decode cX9_comes 37 = .ok (.invokevirtual 147, 3) := by decide +kernel
theorem dX9_comes_40 : decode cX9_comes 40 = .ok (.ifCond .eq 16, 3) := by decide +kernel
theorem dX9_comes_43 : decode cX9_comes 43 = .ok (.aload_n 0, 1) := by decide +kernel
theorem dX9_comes_44 : decode cX9_comes 44 = .ok (.getfield 19, 3) := by decide +kernel
theorem dX9_comes_47 : decode cX9_comes 47 = .ok (.iconst 1, 1) := by decide +kernel
theorem dX9_comes_48 : decode cX9_comes 48 = .ok (.dup2, 1) := by decide +kernel
theorem dX9_comes_49 : decode cX9_comes 49 = .ok (.iaload, 1) := by decide +kernel
theorem dX9_comes_50 : decode cX9_comes 50 = .ok (.iconst 1, 1) := by decide +kernel
theorem dX9_comes_51 : decode cX9_comes 51 = .ok (.iadd, 1) := by decide +kernel
theorem dX9_comes_52 : decode cX9_comes 52 = .ok (.iastore, 1) := by decide +kernel
theorem dX9_comes_53 : decode cX9_comes 53 = .ok (.bipush (-3), 2) := by decide +kernel
theorem dX9_comes_55 : decode cX9_comes 55 = .ok (.ireturn, 1) := by decide +kernel
theorem dX9_comes_56 : decode cX9_comes 56 = .ok (.aload_n 0, 1) := by decide +kernel
theorem dX9_comes_57 : decode cX9_comes 57 = .ok (.invokevirtual 105, 3) := by decide +kernel
theorem dX9_comes_60 : decode cX9_comes 60 = .ok (.aload_n 0, 1) := by decide +kernel
theorem dX9_comes_61 : decode cX9_comes 61 = .ok (.invokevirtual 108, 3) := by decide +kernel
theorem dX9_comes_64 : decode cX9_comes 64 = .ok (.aload_n 0, 1) := by decide +kernel
theorem dX9_comes_65 : decode cX9_comes 65 = .ok (.iload_n 1, 1) := by decide +kernel
theorem dX9_comes_66 : decode cX9_comes 66 = .ok (.iload_n 2, 1) := by decide +kernel
theorem dX9_comes_67 : decode cX9_comes 67 = .ok (.iload_n 3, 1) := by decide +kernel
theorem dX9_comes_68 : decode cX9_comes 68 = .ok (.invokevirtual 150, 3) := by decide +kernel
theorem dX9_comes_71 : decode cX9_comes 71 = .ok (.aload_n 0, 1) := by decide +kernel
theorem dX9_comes_72 : decode cX9_comes 72 = .ok (.invokevirtual 153, 3) := by decide +kernel
theorem dX9_comes_75 : decode cX9_comes 75 = .ok (.ireturn, 1) := by decide +kernel
theorem dX9_goes_0 : decode cX9_goes 0 = .ok (.iload_n 1, 1) := by decide +kernel
theorem dX9_goes_1 : decode cX9_goes 1 = .ok (.iconst 0, 1) := by decide +kernel
theorem dX9_goes_2 : decode cX9_goes 2 = .ok (.iconst 1, 1) := by decide +kernel
theorem dX9_goes_3 : decode cX9_goes 3 = .ok (.invokestatic 53, 3) := by decide +kernel
theorem dX9_goes_6 : decode cX9_goes 6 = .ok (.ifCond .eq 24, 3) := by decide +kernel
theorem dX9_goes_9 : decode cX9_goes 9 = .ok (.iload_n 2, 1) := by decide +kernel
theorem dX9_goes_10 : decode cX9_goes 10 = .ok (.iconst 0, 1) := by decide +kernel
theorem dX9_goes_11 : decode cX9_goes 11 = .ok (.iconst 5, 1) := by decide +kernel
theorem dX9_goes_12 : decode cX9_goes 12 = .ok (.invokestatic 53, 3) := by decide +kernel
theorem dX9_goes_15 : decode cX9_goes 15 = .ok (.ifCond .eq 15, 3) := by decide +kernel
theorem dX9_goes_18 : decode cX9_goes 18 = .ok (.iload_n 3, 1) := by decide +kernel
theorem dX9_goes_19 : decode cX9_goes 19 = .ok (.iconst 1, 1) := by decide +kernel
theorem dX9_goes_20 : decode cX9_goes 20 = .ok (.bipush 6, 2) := by decide +kernel
theorem dX9_goes_22 : decode cX9_goes 22 = .ok (.iload_n 2, 1) := by decide +kernel
theorem dX9_goes_23 : decode cX9_goes 23 = .ok (.isub, 1) := by decide +kernel
theorem dX9_goes_24 : decode cX9_goes 24 = .ok (.invokestatic 53, 3) := by decide +kernel
theorem dX9_goes_27 : decode cX9_goes 27 = .ok (.ifCond .ne 8, 3) := by decide +kernel
theorem dX9_goes_30 : decode cX9_goes 30 = .ok (.aload_n 0, 1) := by decide +kernel
theorem dX9_goes_31 : decode cX9_goes 31 = .ok (.invokevirtual 95, 3) := by decide +kernel
theorem dX9_goes_34 : decode cX9_goes 34 = .ok (.ireturn, 1) := by decide +kernel
theorem dX9_goes_35 : decode cX9_goes 35 = .ok (.aload_n 0, 1) := by decide +kernel
theorem dX9_goes_36 : decode cX9_goes 36 = .ok (.invokevirtual 105, 3) := by decide +kernel
theorem dX9_goes_39 : decode cX9_goes 39 = .ok (.aload_n 0, 1) := by decide +kernel
theorem dX9_goes_40 : decode cX9_goes 40 = .ok (.invokevirtual 108, 3) := by decide +kernel
theorem dX9_goes_43 : decode cX9_goes 43 = .ok (.aload_n 0, 1) := by decide +kernel
theorem dX9_goes_44 : decode cX9_goes 44 = .ok (.iload_n 1, 1) := by decide +kernel
theorem dX9_goes_45 : decode cX9_goes 45 = .ok (.iload_n 2, 1) := by decide +kernel
theorem dX9_goes_46 : decode cX9_goes 46 = .ok (.iload_n 3, 1) := by decide +kernel
theorem dX9_goes_47 : decode cX9_goes 47 = .ok (.ineg, 1) := by decide +kernel
theorem dX9_goes_48 : decode cX9_goes 48 = .ok (.invokevirtual 150, 3) := by decide +kernel
theorem dX9_goes_51 : decode cX9_goes 51 = .ok (.aload_n 0, 1) := by decide +kernel
theorem dX9_goes_52 : decode cX9_goes 52 = .ok (.invokevirtual 153, 3) := by decide +kernel
theorem dX9_goes_55 : decode cX9_goes 55 = .ok (.ireturn, 1) := by decide +kernel
theorem dX9_isWithin_0 : decode cX9_isWithin 0 = .ok (.iload_n 0, 1) := by decide +kernel
theorem dX9_isWithin_1 : decode cX9_isWithin 1 = .ok (.iload_n 1, 1) := by decide +kernel
theorem dX9_isWithin_2 : decode cX9_isWithin 2 = .ok (.invokestatic 99, 3) := by decide +kernel
theorem dX9_isWithin_5 : decode cX9_isWithin 5 = .ok (.ifCond .eq 31, 3) := by decide +kernel
theorem dX9_isWithin_8 : decode cX9_isWithin 8 = .ok (.iload_n 2, 1) := by decide +kernel
theorem dX9_isWithin_9 : decode cX9_isWithin 9 = .ok (.iconst 1, 1) := by decide +kernel
theorem dX9_isWithin_10 : decode cX9_isWithin 10 = .ok (.bipush 6, 2) := by decide +kernel
theorem dX9_isWithin_12 : decode cX9_isWithin 12 = .ok (.iload_n 0, 1) := by decide +kernel
theorem dX9_isWithin_13 : decode cX9_isWithin 13 = .ok (.isub, 1) := by decide +kernel
theorem dX9_isWithin_14 : decode cX9_isWithin 14 = .ok (.invokestatic 53, 3) := by decide +kernel
theorem dX9_isWithin_17 : decode cX9_isWithin 17 = .ok (.ifCond .eq 19, 3) := by decide +kernel
theorem dX9_isWithin_20 : decode cX9_isWithin 20 = .ok (.iload_n 3, 1) := by decide +kernel
theorem dX9_isWithin_21 : decode cX9_isWithin 21 = .ok (.iconst 1, 1) := by decide +kernel
theorem dX9_isWithin_22 : decode cX9_isWithin 22 = .ok (.bipush 6, 2) := by decide +kernel
theorem dX9_isWithin_24 : decode cX9_isWithin 24 = .ok (.iload_n 1, 1) := by decide +kernel
theorem dX9_isWithin_25 : decode cX9_isWithin 25 = .ok (.isub, 1) := by decide +kernel
theorem dX9_isWithin_26 : decode cX9_isWithin 26 = .ok (.invokestatic 53, 3) := by decide +kernel
theorem dX9_isWithin_29 : decode cX9_isWithin 29 = .ok (.ifCond .eq 7, 3) := by decide +kernel
theorem dX9_isWithin_32 : decode cX9_isWithin 32 = .ok (.iconst 1, 1) := by decide +kernel
theorem dX9_isWithin_33 : decode cX9_isWithin 33 = .ok (.goto 4, 3) := by decide +kernel
theorem dX9_isWithin_36 : decode cX9_isWithin 36 = .ok (.iconst 0, 1) := by decide +kernel
theorem dX9_isWithin_37 : decode cX9_isWithin 37 = .ok (.ireturn, 1) := by decide +kernel
theorem dX9_liesIn_0 : decode cX9_liesIn 0 = .ok (.aload_n 0, 1) := by decide +kernel
theorem dX9_liesIn_1 : decode cX9_liesIn 1 = .ok (.getfield 7, 3) := by decide +kernel
theorem dX9_liesIn_4 : decode cX9_liesIn 4 = .ok (.iload_n 1, 1) := by decide +kernel
theorem dX9_liesIn_5 : decode cX9_liesIn 5 = .ok (.iconst 0, 1) := by decide +kernel
theorem dX9_liesIn_6 : decode cX9_liesIn 6 = .ok (.iadd, 1) := by decide +kernel
theorem dX9_liesIn_7 : decode cX9_liesIn 7 = .ok (.iaload, 1) := by decide +kernel
theorem dX9_liesIn_8 : decode cX9_liesIn 8 = .ok (.iconst 2, 1) := by decide +kernel
theorem dX9_liesIn_9 : decode cX9_liesIn 9 = .ok (.if_icmp .ne 14, 3) := by decide +kernel
theorem dX9_liesIn_12 : decode cX9_liesIn 12 = .ok (.aload_n 0, 1) := by decide +kernel
theorem dX9_liesIn_13 : decode cX9_liesIn 13 = .ok (.getfield 7, 3) := by decide +kernel
theorem dX9_liesIn_16 : decode cX9_liesIn 16 = .ok (.iload_n 1, 1) := by decide +kernel
theorem dX9_liesIn_17 : decode cX9_liesIn 17 = .ok (.iconst 3, 1) := by decide +kernel
theorem dX9_liesIn_18 : decode cX9_liesIn 18 = .ok (.iadd, 1) := by decide +kernel
theorem dX9_liesIn_19 : decode cX9_liesIn 19 = .ok (.iaload, 1) := by decide +kernel
theorem dX9_liesIn_20 : decode cX9_liesIn 20 = .ok (.goto 11, 3) := by decide +kernel
theorem dX9_liesIn_23 : decode cX9_liesIn 23 = .ok (.aload_n 0, 1) := by decide +kernel
theorem dX9_liesIn_24 : decode cX9_liesIn 24 = .ok (.getfield 7, 3) := by decide +kernel
theorem dX9_liesIn_27 : decode cX9_liesIn 27 = .ok (.iload_n 1, 1) := by decide +kernel
theorem dX9_liesIn_28 : decode cX9_liesIn 28 = .ok (.iconst 1, 1) := by decide +kernel
theorem dX9_liesIn_29 : decode cX9_liesIn 29 = .ok (.iadd, 1) := by decide +kernel
theorem dX9_liesIn_30 : decode cX9_liesIn 30 = .ok (.iaload, 1) := by decide +kernel
theorem dX9_liesIn_31 : decode cX9_liesIn 31 = .ok (.istore 6, 2) := by decide +kernel
theorem dX9_liesIn_33 : decode cX9_liesIn 33 = .ok (.aload_n 0, 1) := by decide +kernel
theorem dX9_liesIn_34 : decode cX9_liesIn 34 = .ok (.getfield 7, 3) := by decide +kernel
theorem dX9_liesIn_37 : decode cX9_liesIn 37 = .ok (.iload_n 1, 1) := by decide +kernel
theorem dX9_liesIn_38 : decode cX9_liesIn 38 = .ok (.iconst 0, 1) := by decide +kernel
theorem dX9_liesIn_39 : decode cX9_liesIn 39 = .ok (.iadd, 1) := by decide +kernel
theorem dX9_liesIn_40 : decode cX9_liesIn 40 = .ok (.iaload, 1) := by decide +kernel
theorem dX9_liesIn_41 : decode cX9_liesIn 41 = .ok (.iconst 2, 1) := by decide +kernel
theorem dX9_liesIn_42 : decode cX9_liesIn 42 = .ok (.if_icmp .ne 14, 3) := by decide +kernel
theorem dX9_liesIn_45 : decode cX9_liesIn 45 = .ok (.aload_n 0, 1) := by decide +kernel
theorem dX9_liesIn_46 : decode cX9_liesIn 46 = .ok (.getfield 7, 3) := by decide +kernel
theorem dX9_liesIn_49 : decode cX9_liesIn 49 = .ok (.iload_n 1, 1) := by decide +kernel
theorem dX9_liesIn_50 : decode cX9_liesIn 50 = .ok (.iconst 4, 1) := by decide +kernel
theorem dX9_liesIn_51 : decode cX9_liesIn 51 = .ok (.iadd, 1) := by decide +kernel
theorem dX9_liesIn_52 : decode cX9_liesIn 52 = .ok (.iaload, 1) := by decide +kernel
theorem dX9_liesIn_53 : decode cX9_liesIn 53 = .ok (.goto 11, 3) := by decide +kernel
theorem dX9_liesIn_56 : decode cX9_liesIn 56 = .ok (.aload_n 0, 1) := by decide +kernel
theorem dX9_liesIn_57 : decode cX9_liesIn 57 = .ok (.getfield 7, 3) := by decide +kernel
theorem dX9_liesIn_60 : decode cX9_liesIn 60 = .ok (.iload_n 1, 1) := by decide +kernel
theorem dX9_liesIn_61 : decode cX9_liesIn 61 = .ok (.iconst 2, 1) := by decide +kernel
theorem dX9_liesIn_62 : decode cX9_liesIn 62 = .ok (.iadd, 1) := by decide +kernel
theorem dX9_liesIn_63 : decode cX9_liesIn 63 = .ok (.iaload, 1) := by decide +kernel
theorem dX9_liesIn_64 : decode cX9_liesIn 64 = .ok (.istore 7, 2) := by decide +kernel
theorem dX9_liesIn_66 : decode cX9_liesIn 66 = .ok (.aload_n 0, 1) := by decide +kernel
theorem dX9_liesIn_67 : decode cX9_liesIn 67 = .ok (.getfield 7, 3) := by decide +kernel
theorem dX9_liesIn_70 : decode cX9_liesIn 70 = .ok (.iload_n 1, 1) := by decide +kernel
theorem dX9_liesIn_71 : decode cX9_liesIn 71 = .ok (.iconst 1, 1) := by decide +kernel
theorem dX9_liesIn_72 : decode cX9_liesIn 72 = .ok (.iadd, 1) := by decide +kernel
theorem dX9_liesIn_73 : decode cX9_liesIn 73 = .ok (.iaload, 1) := by decide +kernel
theorem dX9_liesIn_74 : decode cX9_liesIn 74 = .ok (.iload_n 2, 1) := by decide +kernel
theorem dX9_liesIn_75 : decode cX9_liesIn 75 = .ok (.if_icmp .lt 37, 3) := by decide +kernel
theorem dX9_liesIn_78 : decode cX9_liesIn 78 = .ok (.iload 6, 2) := by decide +kernel
theorem dX9_liesIn_80 : decode cX9_liesIn 80 = .ok (.iload_n 2, 1) := by decide +kernel
theorem dX9_liesIn_81 : decode cX9_liesIn 81 = .ok (.iload 4, 2) := by decide +kernel
theorem dX9_liesIn_83 : decode cX9_liesIn 83 = .ok (.iadd, 1) := by decide +kernel
theorem dX9_liesIn_84 : decode cX9_liesIn 84 = .ok (.if_icmp .ge 28, 3) := by decide +kernel
theorem dX9_liesIn_87 : decode cX9_liesIn 87 = .ok (.aload_n 0, 1) := by decide +kernel
theorem dX9_liesIn_88 : decode cX9_liesIn 88 = .ok (.getfield 7, 3) := by decide +kernel
theorem dX9_liesIn_91 : decode cX9_liesIn 91 = .ok (.iload_n 1, 1) := by decide +kernel
theorem dX9_liesIn_92 : decode cX9_liesIn 92 = .ok (.iconst 2, 1) := by decide +kernel
theorem dX9_liesIn_93 : decode cX9_liesIn 93 = .ok (.iadd, 1) := by decide +kernel
theorem dX9_liesIn_94 : decode cX9_liesIn 94 = .ok (.iaload, 1) := by decide +kernel
theorem dX9_liesIn_95 : decode cX9_liesIn 95 = .ok (.iload_n 3, 1) := by decide +kernel
theorem dX9_liesIn_96 : decode cX9_liesIn 96 = .ok (.if_icmp .lt 16, 3) := by decide +kernel
theorem dX9_liesIn_99 : decode cX9_liesIn 99 = .ok (.iload 7, 2) := by decide +kernel
theorem dX9_liesIn_101 : decode cX9_liesIn 101 = .ok (.iload_n 3, 1) := by decide +kernel
theorem dX9_liesIn_102 : decode cX9_liesIn 102 = .ok (.iload 5, 2) := by decide +kernel
theorem dX9_liesIn_104 : decode cX9_liesIn 104 = .ok (.iadd, 1) := by decide +kernel
theorem dX9_liesIn_105 : decode cX9_liesIn 105 = .ok (.if_icmp .ge 7, 3) := by decide +kernel
theorem dX9_liesIn_108 : decode cX9_liesIn 108 = .ok (.iconst 1, 1) := by decide +kernel
theorem dX9_liesIn_109 : decode cX9_liesIn 109 = .ok (.goto 4, 3) := by decide +kernel
theorem dX9_liesIn_112 : decode cX9_liesIn 112 = .ok (.iconst 0, 1) := by decide +kernel
theorem dX9_liesIn_113 : decode cX9_liesIn 113 = .ok (.ireturn, 1) := by decide +kernel
theorem dX9_pushes_0 : decode cX9_pushes 0 = .ok (.aload_n 0, 1) := by decide +kernel
theorem dX9_pushes_1 : decode cX9_pushes 1 = .ok (.getfield 7, 3) := by decide +kernel
theorem dX9_pushes_4 : decode cX9_pushes 4 = .ok (.iload_n 1, 1) := by decide +kernel
theorem dX9_pushes_5 : decode cX9_pushes 5 = .ok (.iconst 1, 1) := by decide +kernel
theorem dX9_pushes_6 : decode cX9_pushes 6 = .ok (.iadd, 1) := by decide +kernel
theorem dX9_pushes_7 : decode cX9_pushes 7 = .ok (.dup2, 1) := by decide +kernel
theorem dX9_pushes_8 : decode cX9_pushes 8 = .ok (.iaload, 1) := by decide +kernel
theorem dX9_pushes_9 : decode cX9_pushes 9 = .ok (.iload_n 2, 1) := by decide +kernel
theorem dX9_pushes_10 : decode cX9_pushes 10 = .ok (.iadd, 1) := by decide +kernel
theorem dX9_pushes_11 : decode cX9_pushes 11 = .ok (.iastore, 1) := by decide +kernel
theorem dX9_pushes_12 : decode cX9_pushes 12 = .ok (.aload_n 0, 1) := by decide +kernel
theorem dX9_pushes_13 : decode cX9_pushes 13 = .ok (.getfield 7, 3) := by decide +kernel
theorem dX9_pushes_16 : decode cX9_pushes 16 = .ok (.iload_n 1, 1) := by decide +kernel
theorem dX9_pushes_17 : decode cX9_pushes 17 = .ok (.iconst 2, 1) := by decide +kernel
theorem dX9_pushes_18 : decode cX9_pushes 18 = .ok (.iadd, 1) := by decide +kernel
theorem dX9_pushes_19 : decode cX9_pushes 19 = .ok (.dup2, 1) := by decide +kernel
theorem dX9_pushes_20 : decode cX9_pushes 20 = .ok (.iaload, 1) := by decide +kernel
theorem dX9_pushes_21 : decode cX9_pushes 21 = .ok (.iload_n 3, 1) := by decide +kernel
theorem dX9_pushes_22 : decode cX9_pushes 22 = .ok (.iadd, 1) := by decide +kernel
theorem dX9_pushes_23 : decode cX9_pushes 23 = .ok (.iastore, 1) := by decide +kernel
theorem dX9_pushes_24 : decode cX9_pushes 24 = .ok (.aload_n 0, 1) := by decide +kernel
theorem dX9_pushes_25 : decode cX9_pushes 25 = .ok (.getfield 7, 3) := by decide +kernel
theorem dX9_pushes_28 : decode cX9_pushes 28 = .ok (.iload_n 1, 1) := by decide +kernel
theorem dX9_pushes_29 : decode cX9_pushes 29 = .ok (.iconst 0, 1) := by decide +kernel
theorem dX9_pushes_30 : decode cX9_pushes 30 = .ok (.iadd, 1) := by decide +kernel
theorem dX9_pushes_31 : decode cX9_pushes 31 = .ok (.iaload, 1) := by decide +kernel
theorem dX9_pushes_32 : decode cX9_pushes 32 = .ok (.iconst 2, 1) := by decide +kernel
theorem dX9_pushes_33 : decode cX9_pushes 33 = .ok (.if_icmp .ne 27, 3) := by decide +kernel
theorem dX9_pushes_36 : decode cX9_pushes 36 = .ok (.aload_n 0, 1) := by decide +kernel
theorem dX9_pushes_37 : decode cX9_pushes 37 = .ok (.getfield 7, 3) := by decide +kernel
theorem dX9_pushes_40 : decode cX9_pushes 40 = .ok (.iload_n 1, 1) := by decide +kernel
theorem dX9_pushes_41 : decode cX9_pushes 41 = .ok (.iconst 3, 1) := by decide +kernel
theorem dX9_pushes_42 : decode cX9_pushes 42 = .ok (.iadd, 1) := by decide +kernel
theorem dX9_pushes_43 : decode cX9_pushes 43 = .ok (.dup2, 1) := by decide +kernel
theorem dX9_pushes_44 : decode cX9_pushes 44 = .ok (.iaload, 1) := by decide +kernel
theorem dX9_pushes_45 : decode cX9_pushes 45 = .ok (.iload_n 2, 1) := by decide +kernel
theorem dX9_pushes_46 : decode cX9_pushes 46 = .ok (.iadd, 1) := by decide +kernel
theorem dX9_pushes_47 : decode cX9_pushes 47 = .ok (.iastore, 1) := by decide +kernel
theorem dX9_pushes_48 : decode cX9_pushes 48 = .ok (.aload_n 0, 1) := by decide +kernel
theorem dX9_pushes_49 : decode cX9_pushes 49 = .ok (.getfield 7, 3) := by decide +kernel
theorem dX9_pushes_52 : decode cX9_pushes 52 = .ok (.iload_n 1, 1) := by decide +kernel
theorem dX9_pushes_53 : decode cX9_pushes 53 = .ok (.iconst 4, 1) := by decide +kernel
theorem dX9_pushes_54 : decode cX9_pushes 54 = .ok (.iadd, 1) := by decide +kernel
theorem dX9_pushes_55 : decode cX9_pushes 55 = .ok (.dup2, 1) := by decide +kernel
theorem dX9_pushes_56 : decode cX9_pushes 56 = .ok (.iaload, 1) := by decide +kernel
theorem dX9_pushes_57 : decode cX9_pushes 57 = .ok (.iload_n 3, 1) := by decide +kernel
theorem dX9_pushes_58 : decode cX9_pushes 58 = .ok (.iadd, 1) := by decide +kernel
theorem dX9_pushes_59 : decode cX9_pushes 59 = .ok (.iastore, 1) := by decide +kernel
theorem dX9_pushes_60 : decode cX9_pushes 60 = .ok (.return_, 1) := by decide +kernel
theorem dX9_moves_0 : decode cX9_moves 0 = .ok (.iload_n 1, 1) := by decide +kernel
theorem dX9_moves_1 : decode cX9_moves 1 = .ok (.iload_n 2, 1) := by decide +kernel
theorem dX9_moves_2 : decode cX9_moves 2 = .ok (.iload_n 3, 1) := by decide +kernel
theorem dX9_moves_3 : decode cX9_moves 3 = .ok (.iload 4, 2) := by decide +kernel
theorem dX9_moves_5 : decode cX9_moves 5 = .ok (.invokestatic 156, 3) := by decide +kernel
theorem dX9_moves_8 : decode cX9_moves 8 = .ok (.ifCond .eq 16, 3) := by decide +kernel
theorem dX9_moves_11 : decode cX9_moves 11 = .ok (.iload 5, 2) := by decide +kernel
theorem dX9_moves_13 : decode cX9_moves 13 = .ok (.iload 6, 2) := by decide +kernel
theorem dX9_moves_15 : decode cX9_moves 15 = .ok (.iload_n 3, 1) := by decide +kernel
theorem dX9_moves_16 : decode cX9_moves 16 = .ok (.iload 4, 2) := by decide +kernel
theorem dX9_moves_18 : decode cX9_moves 18 = .ok (.invokestatic 156, 3) := by decide +kernel
theorem dX9_moves_21 : decode cX9_moves 21 = .ok (.ifCond .ne 8, 3) := by decide +kernel
theorem dX9_moves_24 : decode cX9_moves 24 = .ok (.aload_n 0, 1) := by decide +kernel
theorem dX9_moves_25 : decode cX9_moves 25 = .ok (.invokevirtual 95, 3) := by decide +kernel
theorem dX9_moves_28 : decode cX9_moves 28 = .ok (.ireturn, 1) := by decide +kernel
theorem dX9_moves_29 : decode cX9_moves 29 = .ok (.aload_n 0, 1) := by decide +kernel
theorem dX9_moves_30 : decode cX9_moves 30 = .ok (.invokevirtual 105, 3) := by decide +kernel
theorem dX9_moves_33 : decode cX9_moves 33 = .ok (.aload_n 0, 1) := by decide +kernel
theorem dX9_moves_34 : decode cX9_moves 34 = .ok (.invokevirtual 108, 3) := by decide +kernel
theorem dX9_moves_37 : decode cX9_moves 37 = .ok (.iconst 0, 1) := by decide +kernel
theorem dX9_moves_38 : decode cX9_moves 38 = .ok (.istore 7, 2) := by decide +kernel
theorem dX9_moves_40 : decode cX9_moves 40 = .ok (.iload 7, 2) := by decide +kernel
theorem dX9_moves_42 : decode cX9_moves 42 = .ok (.iload_n 3, 1) := by decide +kernel
theorem dX9_moves_43 : decode cX9_moves 43 = .ok (.iload 4, 2) := by decide +kernel
theorem dX9_moves_45 : decode cX9_moves 45 = .ok (.imul, 1) := by decide +kernel
theorem dX9_moves_46 : decode cX9_moves 46 = .ok (.if_icmp .ge 28, 3) := by decide +kernel
theorem dX9_moves_49 : decode cX9_moves 49 = .ok (.aload_n 0, 1) := by decide +kernel
theorem dX9_moves_50 : decode cX9_moves 50 = .ok (.iload_n 1, 1) := by decide +kernel
theorem dX9_moves_51 : decode cX9_moves 51 = .ok (.iload 7, 2) := by decide +kernel
theorem dX9_moves_53 : decode cX9_moves 53 = .ok (.iload_n 3, 1) := by decide +kernel
theorem dX9_moves_54 : decode cX9_moves 54 = .ok (.irem, 1) := by decide +kernel
theorem dX9_moves_55 : decode cX9_moves 55 = .ok (.iadd, 1) := by decide +kernel
theorem dX9_moves_56 : decode cX9_moves 56 = .ok (.iload_n 2, 1) := by decide +kernel
theorem dX9_moves_57 : decode cX9_moves 57 = .ok (.iload 7, 2) := by decide +kernel
theorem dX9_moves_59 : decode cX9_moves 59 = .ok (.iload_n 3, 1) := by decide +kernel
theorem dX9_moves_60 : decode cX9_moves 60 = .ok (.idiv, 1) := by decide +kernel
theorem dX9_moves_61 : decode cX9_moves 61 = .ok (.iadd, 1) := by decide +kernel
theorem dX9_moves_62 : decode cX9_moves 62 = .ok (.invokestatic 111, 3) := by decide +kernel
theorem dX9_moves_65 : decode cX9_moves 65 = .ok (.invokevirtual 115, 3) := by decide +kernel
theorem dX9_moves_68 : decode cX9_moves 68 = .ok (.iinc 7 1, 3) := by decide +kernel
theorem dX9_moves_71 : decode cX9_moves 71 = .ok (.goto (-31), 3) := by decide +kernel
theorem dX9_moves_74 : decode cX9_moves 74 = .ok (.iconst 0, 1) := by decide +kernel
theorem dX9_moves_75 : decode cX9_moves 75 = .ok (.istore 7, 2) := by decide +kernel
theorem dX9_moves_77 : decode cX9_moves 77 = .ok (.iload 7, 2) := by decide +kernel
theorem dX9_moves_79 : decode cX9_moves 79 = .ok (.iload_n 3, 1) := by decide +kernel
theorem dX9_moves_80 : decode cX9_moves 80 = .ok (.iload 4, 2) := by decide +kernel
theorem dX9_moves_82 : decode cX9_moves 82 = .ok (.imul, 1) := by decide +kernel
theorem dX9_moves_83 : decode cX9_moves 83 = .ok (.if_icmp .ge 45, 3) := by decide +kernel
theorem dX9_moves_86 : decode cX9_moves 86 = .ok (.aload_n 0, 1) := by decide +kernel
theorem dX9_moves_87 : decode cX9_moves 87 = .ok (.iload 5, 2) := by decide +kernel
theorem dX9_moves_89 : decode cX9_moves 89 = .ok (.iload 7, 2) := by decide +kernel
theorem dX9_moves_91 : decode cX9_moves 91 = .ok (.iload_n 3, 1) := by decide +kernel
theorem dX9_moves_92 : decode cX9_moves 92 = .ok (.irem, 1) := by decide +kernel
theorem dX9_moves_93 : decode cX9_moves 93 = .ok (.iadd, 1) := by decide +kernel
theorem dX9_moves_94 : decode cX9_moves 94 = .ok (.iload 6, 2) := by decide +kernel
theorem dX9_moves_96 : decode cX9_moves 96 = .ok (.iload 7, 2) := by decide +kernel
theorem dX9_moves_98 : decode cX9_moves 98 = .ok (.iload_n 3, 1) := by decide +kernel
theorem dX9_moves_99 : decode cX9_moves 99 = .ok (.idiv, 1) := by decide +kernel
theorem dX9_moves_100 : decode cX9_moves 100 = .ok (.iadd, 1) := by decide +kernel
theorem dX9_moves_101 : decode cX9_moves 101 = .ok (.invokestatic 111, 3) := by decide +kernel
theorem dX9_moves_104 : decode cX9_moves 104 = .ok (.iload_n 1, 1) := by decide +kernel
theorem dX9_moves_105 : decode cX9_moves 105 = .ok (.iload 7, 2) := by decide +kernel
theorem dX9_moves_107 : decode cX9_moves 107 = .ok (.iload_n 3, 1) := by decide +kernel
theorem dX9_moves_108 : decode cX9_moves 108 = .ok (.irem, 1) := by decide +kernel
theorem dX9_moves_109 : decode cX9_moves 109 = .ok (.iadd, 1) := by decide +kernel
theorem dX9_moves_110 : decode cX9_moves 110 = .ok (.iload_n 2, 1) := by decide +kernel
theorem dX9_moves_111 : decode cX9_moves 111 = .ok (.iload 7, 2) := by decide +kernel
theorem dX9_moves_113 : decode cX9_moves 113 = .ok (.iload_n 3, 1) := by decide +kernel
theorem dX9_moves_114 : decode cX9_moves 114 = .ok (.idiv, 1) := by decide +kernel
theorem dX9_moves_115 : decode cX9_moves 115 = .ok (.iadd, 1) := by decide +kernel
theorem dX9_moves_116 : decode cX9_moves 116 = .ok (.invokestatic 111, 3) := by decide +kernel
theorem dX9_moves_119 : decode cX9_moves 119 = .ok (.invokevirtual 126, 3) := by decide +kernel
theorem dX9_moves_122 : decode cX9_moves 122 = .ok (.iinc 7 1, 3) := by decide +kernel
theorem dX9_moves_125 : decode cX9_moves 125 = .ok (.goto (-48), 3) := by decide +kernel
theorem dX9_moves_128 : decode cX9_moves 128 = .ok (.iconst 0, 1) := by decide +kernel
theorem dX9_moves_129 : decode cX9_moves 129 = .ok (.istore 7, 2) := by decide +kernel
theorem dX9_moves_131 : decode cX9_moves 131 = .ok (.iconst 0, 1) := by decide +kernel
theorem dX9_moves_132 : decode cX9_moves 132 = .ok (.istore 8, 2) := by decide +kernel
theorem dX9_moves_134 : decode cX9_moves 134 = .ok (.iload 8, 2) := by decide +kernel
theorem dX9_moves_136 : decode cX9_moves 136 = .ok (.bipush 36, 2) := by decide +kernel
theorem dX9_moves_138 : decode cX9_moves 138 = .ok (.if_icmp .ge 144, 3) := by decide +kernel
theorem dX9_moves_141 : decode cX9_moves 141 = .ok (.iconst 0, 1) := by decide +kernel
theorem dX9_moves_142 : decode cX9_moves 142 = .ok (.istore 9, 2) := by decide +kernel
theorem dX9_moves_144 : decode cX9_moves 144 = .ok (.iload 9, 2) := by decide +kernel
theorem dX9_moves_146 : decode cX9_moves 146 = .ok (.aload_n 0, 1) := by decide +kernel
theorem dX9_moves_147 : decode cX9_moves 147 = .ok (.getfield 7, 3) := by decide +kernel
theorem dX9_moves_150 : decode cX9_moves 150 = .ok (.bipush 25, 2) := by decide +kernel
theorem dX9_moves_152 : decode cX9_moves 152 = .ok (.iload 8, 2) := by decide +kernel
theorem dX9_moves_154 : decode cX9_moves 154 = .ok (.imul, 1) := by decide +kernel
theorem dX9_moves_155 : decode cX9_moves 155 = .ok (.iaload, 1) := by decide +kernel
theorem dX9_moves_156 : decode cX9_moves 156 = .ok (.if_icmp .ge 120, 3) := by decide +kernel
theorem dX9_moves_159 : decode cX9_moves 159 = .ok (.bipush 25, 2) := by decide +kernel
theorem dX9_moves_161 : decode cX9_moves 161 = .ok (.iload 8, 2) := by decide +kernel
theorem dX9_moves_163 : decode cX9_moves 163 = .ok (.imul, 1) := by decide +kernel
theorem dX9_moves_164 : decode cX9_moves 164 = .ok (.iload 9, 2) := by decide +kernel
theorem dX9_moves_166 : decode cX9_moves 166 = .ok (.invokestatic 137, 3) := by decide +kernel
theorem dX9_moves_169 : decode cX9_moves 169 = .ok (.istore 10, 2) := by decide +kernel
theorem dX9_moves_171 : decode cX9_moves 171 = .ok (.aload_n 0, 1) := by decide +kernel
theorem dX9_moves_172 : decode cX9_moves 172 = .ok (.getfield 7, 3) := by decide +kernel
theorem dX9_moves_175 : decode cX9_moves 175 = .ok (.iload 10, 2) := by decide +kernel
theorem dX9_moves_177 : decode cX9_moves 177 = .ok (.iconst 0, 1) := by decide +kernel
theorem dX9_moves_178 : decode cX9_moves 178 = .ok (.iadd, 1) := by decide +kernel
theorem dX9_moves_179 : decode cX9_moves 179 = .ok (.iaload, 1) := by decide +kernel
theorem dX9_moves_180 : decode cX9_moves 180 = .ok (.iconst 1, 1) := by decide +kernel
theorem dX9_moves_181 : decode cX9_moves 181 = .ok (.if_icmp .eq 16, 3) := by decide +kernel
theorem dX9_moves_184 : decode cX9_moves 184 = .ok (.aload_n 0, 1) := by decide +kernel
theorem dX9_moves_185 : decode cX9_moves 185 = .ok (.getfield 7, 3) := by decide +kernel
theorem dX9_moves_188 : decode cX9_moves 188 = .ok (.iload 10, 2) := by decide +kernel
theorem dX9_moves_190 : decode cX9_moves 190 = .ok (.iconst 0, 1) := by decide +kernel
theorem dX9_moves_191 : decode cX9_moves 191 = .ok (.iadd, 1) := by decide +kernel
theorem dX9_moves_192 : decode cX9_moves 192 = .ok (.iaload, 1) := by decide +kernel
theorem dX9_moves_193 : decode cX9_moves 193 = .ok (.iconst 2, 1) := by decide +kernel
theorem dX9_moves_194 : decode cX9_moves 194 = .ok (.if_icmp .ne 7, 3) := by decide +kernel
theorem dX9_moves_197 : decode cX9_moves 197 = .ok (.iconst 1, 1) := by decide +kernel
theorem dX9_moves_198 : decode cX9_moves 198 = .ok (.goto 4, 3) := by decide +kernel
theorem dX9_moves_201 : decode cX9_moves 201 = .ok (.iconst 0, 1) := by decide +kernel
theorem dX9_moves_202 : decode cX9_moves 202 = .ok (.istore 11, 2) := by decide +kernel
theorem dX9_moves_204 : decode cX9_moves 204 = .ok (.iload 11, 2) := by decide +kernel
theorem dX9_moves_206 : decode cX9_moves 206 = .ok (.ifCond .eq 34, 3) := by decide +kernel
theorem dX9_moves_209 : decode cX9_moves 209 = .ok (.aload_n 0, 1) := by decide +kernel
theorem dX9_moves_210 : decode cX9_moves 210 = .ok (.iload 10, 2) := by decide +kernel
theorem dX9_moves_212 : decode cX9_moves 212 = .ok (.iload_n 1, 1) := by decide +kernel
theorem dX9_moves_213 : decode cX9_moves 213 = .ok (.iload_n 2, 1) := by decide +kernel
theorem dX9_moves_214 : decode cX9_moves 214 = .ok (.iload_n 3, 1) := by decide +kernel
theorem dX9_moves_215 : decode cX9_moves 215 = .ok (.iload 4, 2) := by decide +kernel
theorem dX9_moves_217 : decode cX9_moves 217 = .ok (.invokevirtual 160, 3) := by decide +kernel
theorem dX9_moves_220 : decode cX9_moves 220 = .ok (.ifCond .eq 20, 3) := by decide +kernel
theorem dX9_moves_223 : decode cX9_moves 223 = .ok (.aload_n 0, 1) := by decide +kernel
theorem dX9_moves_224 : decode cX9_moves 224 = .ok (.iload 10, 2) := by decide +kernel
theorem dX9_moves_226 : decode cX9_moves 226 = .ok (.iload 5, 2) := by decide +kernel
theorem dX9_moves_228 : decode cX9_moves 228 = .ok (.iload_n 1, 1) := by decide +kernel
theorem dX9_moves_229 : decode cX9_moves 229 = .ok (.isub, 1) := by decide +kernel
theorem dX9_moves_230 : decode cX9_moves 230 = .ok (.iload 6, 2) := by decide +kernel
theorem dX9_moves_232 : decode cX9_moves 232 = .ok (.iload_n 2, 1) := by decide +kernel
theorem dX9_moves_233 : decode cX9_moves 233 = .ok (.isub, 1) := by decide +kernel
theorem dX9_moves_234 : decode cX9_moves 234 = .ok (.invokevirtual 164, 3) := by decide +kernel
theorem dX9_moves_237 : decode cX9_moves 237 = .ok (.goto 33, 3) := by decide +kernel
theorem dX9_moves_240 : decode cX9_moves 240 = .ok (.iload 11, 2) := by decide +kernel
theorem dX9_moves_242 : decode cX9_moves 242 = .ok (.ifCond .eq 28, 3) := by decide +kernel
theorem dX9_moves_245 : decode cX9_moves 245 = .ok (.aload_n 0, 1) := by decide +kernel
theorem dX9_moves_246 : decode cX9_moves 246 = .ok (.iload 10, 2) := by decide +kernel
theorem dX9_moves_248 : decode cX9_moves 248 = .ok (.iload 5, 2) := by decide +kernel
theorem dX9_moves_250 : decode cX9_moves 250 = .ok (.iload 6, 2) := by decide +kernel
theorem dX9_moves_252 : decode cX9_moves 252 = .ok (.iload_n 3, 1) := by decide +kernel
theorem dX9_moves_253 : decode cX9_moves 253 = .ok (.iload 4, 2) := by decide +kernel
theorem dX9_moves_255 : decode cX9_moves 255 = .ok (.invokevirtual 160, 3) := by decide +kernel
theorem dX9_moves_258 : decode cX9_moves 258 = .ok (.ifCond .eq 12, 3) := by decide +kernel
theorem dX9_moves_261 : decode cX9_moves 261 = .ok (.aload_n 0, 1) := by decide +kernel
theorem dX9_moves_262 : decode cX9_moves 262 = .ok (.iload 10, 2) := by decide +kernel
theorem dX9_moves_264 : decode cX9_moves 264 = .ok (.invokevirtual 130, 3) := by decide +kernel
theorem dX9_moves_267 : decode cX9_moves 267 = .ok (.iinc 7 1, 3) := by decide +kernel
theorem dX9_moves_270 : decode cX9_moves 270 = .ok (.iinc 9 1, 3) := by decide +kernel
theorem dX9_moves_273 : decode cX9_moves 273 = .ok (.goto (-129), 3) := by decide +kernel
theorem dX9_moves_276 : decode cX9_moves 276 = .ok (.iinc 8 1, 3) := by decide +kernel
theorem dX9_moves_279 : decode cX9_moves 279 = .ok (.goto (-145), 3) := by decide +kernel
theorem dX9_moves_282 : decode cX9_moves 282 = .ok (.iload 7, 2) := by decide +kernel
theorem dX9_moves_284 : decode cX9_moves 284 = .ok (.ireturn, 1) := by decide +kernel
theorem dX9_goesOn_0 : decode cX9_goesOn 0 = .ok (.aload_n 0, 1) := by decide +kernel
theorem dX9_goesOn_1 : decode cX9_goesOn 1 = .ok (.getfield 7, 3) := by decide +kernel
theorem dX9_goesOn_4 : decode cX9_goesOn 4 = .ok (.iload_n 1, 1) := by decide +kernel
theorem dX9_goesOn_5 : decode cX9_goesOn 5 = .ok (.iconst 5, 1) := by decide +kernel
theorem dX9_goesOn_6 : decode cX9_goesOn 6 = .ok (.iadd, 1) := by decide +kernel
theorem dX9_goesOn_7 : decode cX9_goesOn 7 = .ok (.iaload, 1) := by decide +kernel
theorem dX9_goesOn_8 : decode cX9_goesOn 8 = .ok (.istore 4, 2) := by decide +kernel
theorem dX9_goesOn_10 : decode cX9_goesOn 10 = .ok (.aload_n 0, 1) := by decide +kernel
theorem dX9_goesOn_11 : decode cX9_goesOn 11 = .ok (.getfield 7, 3) := by decide +kernel
theorem dX9_goesOn_14 : decode cX9_goesOn 14 = .ok (.iload_n 1, 1) := by decide +kernel
theorem dX9_goesOn_15 : decode cX9_goesOn 15 = .ok (.iconst 1, 1) := by decide +kernel
theorem dX9_goesOn_16 : decode cX9_goesOn 16 = .ok (.iadd, 1) := by decide +kernel
theorem dX9_goesOn_17 : decode cX9_goesOn 17 = .ok (.dup2, 1) := by decide +kernel
theorem dX9_goesOn_18 : decode cX9_goesOn 18 = .ok (.iaload, 1) := by decide +kernel
theorem dX9_goesOn_19 : decode cX9_goesOn 19 = .ok (.iload 4, 2) := by decide +kernel
theorem dX9_goesOn_21 : decode cX9_goesOn 21 = .ok (.iconst 1, 1) := by decide +kernel
theorem dX9_goesOn_22 : decode cX9_goesOn 22 = .ok (.iand, 1) := by decide +kernel
theorem dX9_goesOn_23 : decode cX9_goesOn 23 = .ok (.ifCond .ne 7, 3) := by decide +kernel
theorem dX9_goesOn_26 : decode cX9_goesOn 26 = .ok (.iload_n 2, 1) := by decide +kernel
theorem dX9_goesOn_27 : decode cX9_goesOn 27 = .ok (.goto 4, 3) := by decide +kernel
theorem dX9_goesOn_30 : decode cX9_goesOn 30 = .ok (.iconst 0, 1) := by decide +kernel
theorem dX9_goesOn_31 : decode cX9_goesOn 31 = .ok (.iadd, 1) := by decide +kernel
theorem dX9_goesOn_32 : decode cX9_goesOn 32 = .ok (.iastore, 1) := by decide +kernel
theorem dX9_goesOn_33 : decode cX9_goesOn 33 = .ok (.aload_n 0, 1) := by decide +kernel
theorem dX9_goesOn_34 : decode cX9_goesOn 34 = .ok (.getfield 7, 3) := by decide +kernel
theorem dX9_goesOn_37 : decode cX9_goesOn 37 = .ok (.iload_n 1, 1) := by decide +kernel
theorem dX9_goesOn_38 : decode cX9_goesOn 38 = .ok (.iconst 2, 1) := by decide +kernel
theorem dX9_goesOn_39 : decode cX9_goesOn 39 = .ok (.iadd, 1) := by decide +kernel
theorem dX9_goesOn_40 : decode cX9_goesOn 40 = .ok (.dup2, 1) := by decide +kernel
theorem dX9_goesOn_41 : decode cX9_goesOn 41 = .ok (.iaload, 1) := by decide +kernel
theorem dX9_goesOn_42 : decode cX9_goesOn 42 = .ok (.iload 4, 2) := by decide +kernel
theorem dX9_goesOn_44 : decode cX9_goesOn 44 = .ok (.iconst 2, 1) := by decide +kernel
theorem dX9_goesOn_45 : decode cX9_goesOn 45 = .ok (.iand, 1) := by decide +kernel
theorem dX9_goesOn_46 : decode cX9_goesOn 46 = .ok (.ifCond .ne 7, 3) := by decide +kernel
theorem dX9_goesOn_49 : decode cX9_goesOn 49 = .ok (.iload_n 3, 1) := by decide +kernel
theorem dX9_goesOn_50 : decode cX9_goesOn 50 = .ok (.goto 4, 3) := by decide +kernel
theorem dX9_goesOn_53 : decode cX9_goesOn 53 = .ok (.iconst 0, 1) := by decide +kernel
theorem dX9_goesOn_54 : decode cX9_goesOn 54 = .ok (.iadd, 1) := by decide +kernel
theorem dX9_goesOn_55 : decode cX9_goesOn 55 = .ok (.iastore, 1) := by decide +kernel
theorem dX9_goesOn_56 : decode cX9_goesOn 56 = .ok (.aload_n 0, 1) := by decide +kernel
theorem dX9_goesOn_57 : decode cX9_goesOn 57 = .ok (.getfield 7, 3) := by decide +kernel
theorem dX9_goesOn_60 : decode cX9_goesOn 60 = .ok (.iload_n 1, 1) := by decide +kernel
theorem dX9_goesOn_61 : decode cX9_goesOn 61 = .ok (.iconst 1, 1) := by decide +kernel
theorem dX9_goesOn_62 : decode cX9_goesOn 62 = .ok (.iadd, 1) := by decide +kernel
theorem dX9_goesOn_63 : decode cX9_goesOn 63 = .ok (.iaload, 1) := by decide +kernel
theorem dX9_goesOn_64 : decode cX9_goesOn 64 = .ok (.aload_n 0, 1) := by decide +kernel
theorem dX9_goesOn_65 : decode cX9_goesOn 65 = .ok (.getfield 7, 3) := by decide +kernel
theorem dX9_goesOn_68 : decode cX9_goesOn 68 = .ok (.iload_n 1, 1) := by decide +kernel
theorem dX9_goesOn_69 : decode cX9_goesOn 69 = .ok (.iconst 2, 1) := by decide +kernel
theorem dX9_goesOn_70 : decode cX9_goesOn 70 = .ok (.iadd, 1) := by decide +kernel
theorem dX9_goesOn_71 : decode cX9_goesOn 71 = .ok (.iaload, 1) := by decide +kernel
theorem dX9_goesOn_72 : decode cX9_goesOn 72 = .ok (.invokestatic 99, 3) := by decide +kernel
theorem dX9_goesOn_75 : decode cX9_goesOn 75 = .ok (.istore 5, 2) := by decide +kernel
theorem dX9_goesOn_77 : decode cX9_goesOn 77 = .ok (.aload_n 0, 1) := by decide +kernel
theorem dX9_goesOn_78 : decode cX9_goesOn 78 = .ok (.getfield 7, 3) := by decide +kernel
theorem dX9_goesOn_81 : decode cX9_goesOn 81 = .ok (.iload_n 1, 1) := by decide +kernel
theorem dX9_goesOn_82 : decode cX9_goesOn 82 = .ok (.iconst 0, 1) := by decide +kernel
theorem dX9_goesOn_83 : decode cX9_goesOn 83 = .ok (.iadd, 1) := by decide +kernel
theorem dX9_goesOn_84 : decode cX9_goesOn 84 = .ok (.iaload, 1) := by decide +kernel
theorem dX9_goesOn_85 : decode cX9_goesOn 85 = .ok (.iconst 2, 1) := by decide +kernel
theorem dX9_goesOn_86 : decode cX9_goesOn 86 = .ok (.if_icmp .ne 106, 3) := by decide +kernel
theorem dX9_goesOn_89 : decode cX9_goesOn 89 = .ok (.aload_n 0, 1) := by decide +kernel
theorem dX9_goesOn_90 : decode cX9_goesOn 90 = .ok (.getfield 7, 3) := by decide +kernel
theorem dX9_goesOn_93 : decode cX9_goesOn 93 = .ok (.iload_n 1, 1) := by decide +kernel
theorem dX9_goesOn_94 : decode cX9_goesOn 94 = .ok (.iconst 3, 1) := by decide +kernel
theorem dX9_goesOn_95 : decode cX9_goesOn 95 = .ok (.iadd, 1) := by decide +kernel
theorem dX9_goesOn_96 : decode cX9_goesOn 96 = .ok (.dup2, 1) := by decide +kernel
theorem dX9_goesOn_97 : decode cX9_goesOn 97 = .ok (.iaload, 1) := by decide +kernel
theorem dX9_goesOn_98 : decode cX9_goesOn 98 = .ok (.iload 4, 2) := by decide +kernel
theorem dX9_goesOn_100 : decode cX9_goesOn 100 = .ok (.iconst 4, 1) := by decide +kernel
theorem dX9_goesOn_101 : decode cX9_goesOn 101 = .ok (.iand, 1) := by decide +kernel
theorem dX9_goesOn_102 : decode cX9_goesOn 102 = .ok (.ifCond .ne 7, 3) := by decide +kernel
theorem dX9_goesOn_105 : decode cX9_goesOn 105 = .ok (.iload_n 2, 1) := by decide +kernel
theorem dX9_goesOn_106 : decode cX9_goesOn 106 = .ok (.goto 4, 3) := by decide +kernel
theorem dX9_goesOn_109 : decode cX9_goesOn 109 = .ok (.iconst 0, 1) := by decide +kernel
theorem dX9_goesOn_110 : decode cX9_goesOn 110 = .ok (.iadd, 1) := by decide +kernel
theorem dX9_goesOn_111 : decode cX9_goesOn 111 = .ok (.iastore, 1) := by decide +kernel
theorem dX9_goesOn_112 : decode cX9_goesOn 112 = .ok (.aload_n 0, 1) := by decide +kernel
theorem dX9_goesOn_113 : decode cX9_goesOn 113 = .ok (.getfield 7, 3) := by decide +kernel
theorem dX9_goesOn_116 : decode cX9_goesOn 116 = .ok (.iload_n 1, 1) := by decide +kernel
theorem dX9_goesOn_117 : decode cX9_goesOn 117 = .ok (.iconst 4, 1) := by decide +kernel
theorem dX9_goesOn_118 : decode cX9_goesOn 118 = .ok (.iadd, 1) := by decide +kernel
theorem dX9_goesOn_119 : decode cX9_goesOn 119 = .ok (.dup2, 1) := by decide +kernel
theorem dX9_goesOn_120 : decode cX9_goesOn 120 = .ok (.iaload, 1) := by decide +kernel
theorem dX9_goesOn_121 : decode cX9_goesOn 121 = .ok (.iload 4, 2) := by decide +kernel
theorem dX9_goesOn_123 : decode cX9_goesOn 123 = .ok (.bipush 8, 2) := by decide +kernel
theorem dX9_goesOn_125 : decode cX9_goesOn 125 = .ok (.iand, 1) := by decide +kernel
theorem dX9_goesOn_126 : decode cX9_goesOn 126 = .ok (.ifCond .ne 7, 3) := by decide +kernel
theorem dX9_goesOn_129 : decode cX9_goesOn 129 = .ok (.iload_n 3, 1) := by decide +kernel
theorem dX9_goesOn_130 : decode cX9_goesOn 130 = .ok (.goto 4, 3) := by decide +kernel
theorem dX9_goesOn_133 : decode cX9_goesOn 133 = .ok (.iconst 0, 1) := by decide +kernel
theorem dX9_goesOn_134 : decode cX9_goesOn 134 = .ok (.iadd, 1) := by decide +kernel
theorem dX9_goesOn_135 : decode cX9_goesOn 135 = .ok (.iastore, 1) := by decide +kernel
theorem dX9_goesOn_136 : decode cX9_goesOn 136 = .ok (.iload 5, 2) := by decide +kernel
theorem dX9_goesOn_138 : decode cX9_goesOn 138 = .ok (.ifCond .eq 29, 3) := by decide +kernel
theorem dX9_goesOn_141 : decode cX9_goesOn 141 = .ok (.aload_n 0, 1) := by decide +kernel
theorem dX9_goesOn_142 : decode cX9_goesOn 142 = .ok (.getfield 7, 3) := by decide +kernel
theorem dX9_goesOn_145 : decode cX9_goesOn 145 = .ok (.iload_n 1, 1) := by decide +kernel
theorem dX9_goesOn_146 : decode cX9_goesOn 146 = .ok (.iconst 3, 1) := by decide +kernel
theorem dX9_goesOn_147 : decode cX9_goesOn 147 = .ok (.iadd, 1) := by decide +kernel
theorem dX9_goesOn_148 : decode cX9_goesOn 148 = .ok (.iaload, 1) := by decide +kernel
theorem dX9_goesOn_149 : decode cX9_goesOn 149 = .ok (.aload_n 0, 1) := by decide +kernel
theorem dX9_goesOn_150 : decode cX9_goesOn 150 = .ok (.getfield 7, 3) := by decide +kernel
theorem dX9_goesOn_153 : decode cX9_goesOn 153 = .ok (.iload_n 1, 1) := by decide +kernel
theorem dX9_goesOn_154 : decode cX9_goesOn 154 = .ok (.iconst 4, 1) := by decide +kernel
theorem dX9_goesOn_155 : decode cX9_goesOn 155 = .ok (.iadd, 1) := by decide +kernel
theorem dX9_goesOn_156 : decode cX9_goesOn 156 = .ok (.iaload, 1) := by decide +kernel
theorem dX9_goesOn_157 : decode cX9_goesOn 157 = .ok (.invokestatic 99, 3) := by decide +kernel
theorem dX9_goesOn_160 : decode cX9_goesOn 160 = .ok (.ifCond .eq 7, 3) := by decide +kernel
theorem dX9_goesOn_163 : decode cX9_goesOn 163 = .ok (.iconst 1, 1) := by decide +kernel
theorem dX9_goesOn_164 : decode cX9_goesOn 164 = .ok (.goto 4, 3) := by decide +kernel
theorem dX9_goesOn_167 : decode cX9_goesOn 167 = .ok (.iconst 0, 1) := by decide +kernel
theorem dX9_goesOn_168 : decode cX9_goesOn 168 = .ok (.istore 5, 2) := by decide +kernel
theorem dX9_goesOn_170 : decode cX9_goesOn 170 = .ok (.aload_n 0, 1) := by decide +kernel
theorem dX9_goesOn_171 : decode cX9_goesOn 171 = .ok (.getfield 7, 3) := by decide +kernel
theorem dX9_goesOn_174 : decode cX9_goesOn 174 = .ok (.iload_n 1, 1) := by decide +kernel
theorem dX9_goesOn_175 : decode cX9_goesOn 175 = .ok (.iconst 1, 1) := by decide +kernel
theorem dX9_goesOn_176 : decode cX9_goesOn 176 = .ok (.iconst 3, 1) := by decide +kernel
theorem dX9_goesOn_177 : decode cX9_goesOn 177 = .ok (.iconst 1, 1) := by decide +kernel
theorem dX9_goesOn_178 : decode cX9_goesOn 178 = .ok (.invokestatic 88, 3) := by decide +kernel
theorem dX9_goesOn_181 : decode cX9_goesOn 181 = .ok (.aload_n 0, 1) := by decide +kernel
theorem dX9_goesOn_182 : decode cX9_goesOn 182 = .ok (.getfield 7, 3) := by decide +kernel
theorem dX9_goesOn_185 : decode cX9_goesOn 185 = .ok (.iload_n 1, 1) := by decide +kernel
theorem dX9_goesOn_186 : decode cX9_goesOn 186 = .ok (.iconst 2, 1) := by decide +kernel
theorem dX9_goesOn_187 : decode cX9_goesOn 187 = .ok (.iconst 4, 1) := by decide +kernel
theorem dX9_goesOn_188 : decode cX9_goesOn 188 = .ok (.iconst 2, 1) := by decide +kernel
theorem dX9_goesOn_189 : decode cX9_goesOn 189 = .ok (.invokestatic 88, 3) := by decide +kernel
theorem dX9_goesOn_192 : decode cX9_goesOn 192 = .ok (.iload 5, 2) := by decide +kernel
theorem dX9_goesOn_194 : decode cX9_goesOn 194 = .ok (.ifCond .ne 8, 3) := by decide +kernel
theorem dX9_goesOn_197 : decode cX9_goesOn 197 = .ok (.aload_n 0, 1) := by decide +kernel
theorem dX9_goesOn_198 : decode cX9_goesOn 198 = .ok (.iload_n 1, 1) := by decide +kernel
theorem dX9_goesOn_199 : decode cX9_goesOn 199 = .ok (.invokevirtual 130, 3) := by decide +kernel
theorem dX9_goesOn_202 : decode cX9_goesOn 202 = .ok (.return_, 1) := by decide +kernel
theorem dX9_copies_0 : decode cX9_copies 0 = .ok (.iload_n 1, 1) := by decide +kernel
theorem dX9_copies_1 : decode cX9_copies 1 = .ok (.iload_n 2, 1) := by decide +kernel
theorem dX9_copies_2 : decode cX9_copies 2 = .ok (.iload_n 3, 1) := by decide +kernel
theorem dX9_copies_3 : decode cX9_copies 3 = .ok (.iload 4, 2) := by decide +kernel
theorem dX9_copies_5 : decode cX9_copies 5 = .ok (.invokestatic 156, 3) := by decide +kernel
theorem dX9_copies_8 : decode cX9_copies 8 = .ok (.ifCond .eq 16, 3) := by decide +kernel
theorem dX9_copies_11 : decode cX9_copies 11 = .ok (.iload 5, 2) := by decide +kernel
theorem dX9_copies_13 : decode cX9_copies 13 = .ok (.iload 6, 2) := by decide +kernel
theorem dX9_copies_15 : decode cX9_copies 15 = .ok (.iload_n 3, 1) := by decide +kernel
theorem dX9_copies_16 : decode cX9_copies 16 = .ok (.iload 4, 2) := by decide +kernel
theorem dX9_copies_18 : decode cX9_copies 18 = .ok (.invokestatic 156, 3) := by decide +kernel
theorem dX9_copies_21 : decode cX9_copies 21 = .ok (.ifCond .ne 8, 3) := by decide +kernel
theorem dX9_copies_24 : decode cX9_copies 24 = .ok (.aload_n 0, 1) := by decide +kernel
theorem dX9_copies_25 : decode cX9_copies 25 = .ok (.invokevirtual 95, 3) := by decide +kernel
theorem dX9_copies_28 : decode cX9_copies 28 = .ok (.ireturn, 1) := by decide +kernel
theorem dX9_copies_29 : decode cX9_copies 29 = .ok (.aload_n 0, 1) := by decide +kernel
theorem dX9_copies_30 : decode cX9_copies 30 = .ok (.invokevirtual 105, 3) := by decide +kernel
theorem dX9_copies_33 : decode cX9_copies 33 = .ok (.aload_n 0, 1) := by decide +kernel
theorem dX9_copies_34 : decode cX9_copies 34 = .ok (.invokevirtual 108, 3) := by decide +kernel
theorem dX9_copies_37 : decode cX9_copies 37 = .ok (.iconst 0, 1) := by decide +kernel
theorem dX9_copies_38 : decode cX9_copies 38 = .ok (.istore 7, 2) := by decide +kernel
theorem dX9_copies_40 : decode cX9_copies 40 = .ok (.iconst 0, 1) := by decide +kernel
theorem dX9_copies_41 : decode cX9_copies 41 = .ok (.istore 8, 2) := by decide +kernel
theorem dX9_copies_43 : decode cX9_copies 43 = .ok (.iload 8, 2) := by decide +kernel
theorem dX9_copies_45 : decode cX9_copies 45 = .ok (.iload_n 3, 1) := by decide +kernel
theorem dX9_copies_46 : decode cX9_copies 46 = .ok (.iload 4, 2) := by decide +kernel
theorem dX9_copies_48 : decode cX9_copies 48 = .ok (.imul, 1) := by decide +kernel
theorem dX9_copies_49 : decode cX9_copies 49 = .ok (.if_icmp .ge 142, 3) := by decide +kernel
theorem dX9_copies_52 : decode cX9_copies 52 = .ok (.iload 5, 2) := by decide +kernel
theorem dX9_copies_54 : decode cX9_copies 54 = .ok (.iload 8, 2) := by decide +kernel
theorem dX9_copies_56 : decode cX9_copies 56 = .ok (.iload_n 3, 1) := by decide +kernel
theorem dX9_copies_57 : decode cX9_copies 57 = .ok (.irem, 1) := by decide +kernel
theorem dX9_copies_58 : decode cX9_copies 58 = .ok (.iadd, 1) := by decide +kernel
theorem dX9_copies_59 : decode cX9_copies 59 = .ok (.iload 6, 2) := by decide +kernel
theorem dX9_copies_61 : decode cX9_copies 61 = .ok (.iload 8, 2) := by decide +kernel
theorem dX9_copies_63 : decode cX9_copies 63 = .ok (.iload_n 3, 1) := by decide +kernel
theorem dX9_copies_64 : decode cX9_copies 64 = .ok (.idiv, 1) := by decide +kernel
theorem dX9_copies_65 : decode cX9_copies 65 = .ok (.iadd, 1) := by decide +kernel
theorem dX9_copies_66 : decode cX9_copies 66 = .ok (.invokestatic 111, 3) := by decide +kernel
theorem dX9_copies_69 : decode cX9_copies 69 = .ok (.istore 9, 2) := by decide +kernel
theorem dX9_copies_71 : decode cX9_copies 71 = .ok (.aload_n 0, 1) := by decide +kernel
theorem dX9_copies_72 : decode cX9_copies 72 = .ok (.iload 9, 2) := by decide +kernel
theorem dX9_copies_74 : decode cX9_copies 74 = .ok (.iload_n 1, 1) := by decide +kernel
theorem dX9_copies_75 : decode cX9_copies 75 = .ok (.iload 8, 2) := by decide +kernel
theorem dX9_copies_77 : decode cX9_copies 77 = .ok (.iload_n 3, 1) := by decide +kernel
theorem dX9_copies_78 : decode cX9_copies 78 = .ok (.irem, 1) := by decide +kernel
theorem dX9_copies_79 : decode cX9_copies 79 = .ok (.iadd, 1) := by decide +kernel
theorem dX9_copies_80 : decode cX9_copies 80 = .ok (.iload_n 2, 1) := by decide +kernel
theorem dX9_copies_81 : decode cX9_copies 81 = .ok (.iload 8, 2) := by decide +kernel
theorem dX9_copies_83 : decode cX9_copies 83 = .ok (.iload_n 3, 1) := by decide +kernel
theorem dX9_copies_84 : decode cX9_copies 84 = .ok (.idiv, 1) := by decide +kernel
theorem dX9_copies_85 : decode cX9_copies 85 = .ok (.iadd, 1) := by decide +kernel
theorem dX9_copies_86 : decode cX9_copies 86 = .ok (.invokestatic 111, 3) := by decide +kernel
theorem dX9_copies_89 : decode cX9_copies 89 = .ok (.invokevirtual 126, 3) := by decide +kernel
theorem dX9_copies_92 : decode cX9_copies 92 = .ok (.iconst 0, 1) := by decide +kernel
theorem dX9_copies_93 : decode cX9_copies 93 = .ok (.istore 10, 2) := by decide +kernel
theorem dX9_copies_95 : decode cX9_copies 95 = .ok (.iload 10, 2) := by decide +kernel
theorem dX9_copies_97 : decode cX9_copies 97 = .ok (.aload_n 0, 1) := by decide +kernel
theorem dX9_copies_98 : decode cX9_copies 98 = .ok (.getfield 7, 3) := by decide +kernel
theorem dX9_copies_101 : decode cX9_copies 101 = .ok (.iload 9, 2) := by decide +kernel
theorem dX9_copies_103 : decode cX9_copies 103 = .ok (.iaload, 1) := by decide +kernel
theorem dX9_copies_104 : decode cX9_copies 104 = .ok (.if_icmp .ge 81, 3) := by decide +kernel
theorem dX9_copies_107 : decode cX9_copies 107 = .ok (.iload 9, 2) := by decide +kernel
theorem dX9_copies_109 : decode cX9_copies 109 = .ok (.iload 10, 2) := by decide +kernel
theorem dX9_copies_111 : decode cX9_copies 111 = .ok (.invokestatic 137, 3) := by decide +kernel
theorem dX9_copies_114 : decode cX9_copies 114 = .ok (.istore 11, 2) := by decide +kernel
theorem dX9_copies_116 : decode cX9_copies 116 = .ok (.aload_n 0, 1) := by decide +kernel
theorem dX9_copies_117 : decode cX9_copies 117 = .ok (.getfield 7, 3) := by decide +kernel
theorem dX9_copies_120 : decode cX9_copies 120 = .ok (.iload 11, 2) := by decide +kernel
theorem dX9_copies_122 : decode cX9_copies 122 = .ok (.iconst 0, 1) := by decide +kernel
theorem dX9_copies_123 : decode cX9_copies 123 = .ok (.iadd, 1) := by decide +kernel
theorem dX9_copies_124 : decode cX9_copies 124 = .ok (.iaload, 1) := by decide +kernel
theorem dX9_copies_125 : decode cX9_copies 125 = .ok (.iconst 1, 1) := by decide +kernel
theorem dX9_copies_126 : decode cX9_copies 126 = .ok (.if_icmp .eq 16, 3) := by decide +kernel
theorem dX9_copies_129 : decode cX9_copies 129 = .ok (.aload_n 0, 1) := by decide +kernel
theorem dX9_copies_130 : decode cX9_copies 130 = .ok (.getfield 7, 3) := by decide +kernel
theorem dX9_copies_133 : decode cX9_copies 133 = .ok (.iload 11, 2) := by decide +kernel
theorem dX9_copies_135 : decode cX9_copies 135 = .ok (.iconst 0, 1) := by decide +kernel
theorem dX9_copies_136 : decode cX9_copies 136 = .ok (.iadd, 1) := by decide +kernel
theorem dX9_copies_137 : decode cX9_copies 137 = .ok (.iaload, 1) := by decide +kernel
theorem dX9_copies_138 : decode cX9_copies 138 = .ok (.iconst 2, 1) := by decide +kernel
theorem dX9_copies_139 : decode cX9_copies 139 = .ok (.if_icmp .ne 17, 3) := by decide +kernel
theorem dX9_copies_142 : decode cX9_copies 142 = .ok (.aload_n 0, 1) := by decide +kernel
theorem dX9_copies_143 : decode cX9_copies 143 = .ok (.iload 11, 2) := by decide +kernel
theorem dX9_copies_145 : decode cX9_copies 145 = .ok (.iload 5, 2) := by decide +kernel
theorem dX9_copies_147 : decode cX9_copies 147 = .ok (.iload_n 1, 1) := by decide +kernel
theorem dX9_copies_148 : decode cX9_copies 148 = .ok (.isub, 1) := by decide +kernel
theorem dX9_copies_149 : decode cX9_copies 149 = .ok (.iload 6, 2) := by decide +kernel
theorem dX9_copies_151 : decode cX9_copies 151 = .ok (.iload_n 2, 1) := by decide +kernel
theorem dX9_copies_152 : decode cX9_copies 152 = .ok (.isub, 1) := by decide +kernel
theorem dX9_copies_153 : decode cX9_copies 153 = .ok (.invokevirtual 167, 3) := by decide +kernel
theorem dX9_copies_156 : decode cX9_copies 156 = .ok (.iload 7, 2) := by decide +kernel
theorem dX9_copies_158 : decode cX9_copies 158 = .ok (.aload_n 0, 1) := by decide +kernel
theorem dX9_copies_159 : decode cX9_copies 159 = .ok (.getfield 7, 3) := by decide +kernel
theorem dX9_copies_162 : decode cX9_copies 162 = .ok (.iload 11, 2) := by decide +kernel
theorem dX9_copies_164 : decode cX9_copies 164 = .ok (.iconst 0, 1) := by decide +kernel
theorem dX9_copies_165 : decode cX9_copies 165 = .ok (.iadd, 1) := by decide +kernel
theorem dX9_copies_166 : decode cX9_copies 166 = .ok (.iaload, 1) := by decide +kernel
theorem dX9_copies_167 : decode cX9_copies 167 = .ok (.iconst 3, 1) := by decide +kernel
theorem dX9_copies_168 : decode cX9_copies 168 = .ok (.if_icmp .ne 7, 3) := by decide +kernel
theorem dX9_copies_171 : decode cX9_copies 171 = .ok (.iconst 1, 1) := by decide +kernel
theorem dX9_copies_172 : decode cX9_copies 172 = .ok (.goto 4, 3) := by decide +kernel
theorem dX9_copies_175 : decode cX9_copies 175 = .ok (.iconst 0, 1) := by decide +kernel
theorem dX9_copies_176 : decode cX9_copies 176 = .ok (.iadd, 1) := by decide +kernel
theorem dX9_copies_177 : decode cX9_copies 177 = .ok (.istore 7, 2) := by decide +kernel
theorem dX9_copies_179 : decode cX9_copies 179 = .ok (.iinc 10 1, 3) := by decide +kernel
theorem dX9_copies_182 : decode cX9_copies 182 = .ok (.goto (-87), 3) := by decide +kernel
theorem dX9_copies_185 : decode cX9_copies 185 = .ok (.iinc 8 1, 3) := by decide +kernel
theorem dX9_copies_188 : decode cX9_copies 188 = .ok (.goto (-145), 3) := by decide +kernel
theorem dX9_copies_191 : decode cX9_copies 191 = .ok (.iload 7, 2) := by decide +kernel
theorem dX9_copies_193 : decode cX9_copies 193 = .ok (.ireturn, 1) := by decide +kernel
theorem dX9_terms_0 : decode cX9_terms 0 = .ok (.iload_n 1, 1) := by decide +kernel
theorem dX9_terms_1 : decode cX9_terms 1 = .ok (.iload_n 2, 1) := by decide +kernel
theorem dX9_terms_2 : decode cX9_terms 2 = .ok (.invokestatic 99, 3) := by decide +kernel
theorem dX9_terms_5 : decode cX9_terms 5 = .ok (.ifCond .eq 16, 3) := by decide +kernel
theorem dX9_terms_8 : decode cX9_terms 8 = .ok (.aload_n 0, 1) := by decide +kernel
theorem dX9_terms_9 : decode cX9_terms 9 = .ok (.getfield 7, 3) := by decide +kernel
theorem dX9_terms_12 : decode cX9_terms 12 = .ok (.iload_n 1, 1) := by decide +kernel
theorem dX9_terms_13 : decode cX9_terms 13 = .ok (.iload_n 2, 1) := by decide +kernel
theorem dX9_terms_14 : decode cX9_terms 14 = .ok (.invokestatic 111, 3) := by decide +kernel
theorem dX9_terms_17 : decode cX9_terms 17 = .ok (.iaload, 1) := by decide +kernel
theorem dX9_terms_18 : decode cX9_terms 18 = .ok (.goto 7, 3) := by decide +kernel
theorem dX9_terms_21 : decode cX9_terms 21 = .ok (.aload_n 0, 1) := by decide +kernel
theorem dX9_terms_22 : decode cX9_terms 22 = .ok (.invokevirtual 95, 3) := by decide +kernel
theorem dX9_terms_25 : decode cX9_terms 25 = .ok (.ireturn, 1) := by decide +kernel
theorem dX9_term_0 : decode cX9_term 0 = .ok (.iload_n 1, 1) := by decide +kernel
theorem dX9_term_1 : decode cX9_term 1 = .ok (.iload_n 2, 1) := by decide +kernel
theorem dX9_term_2 : decode cX9_term 2 = .ok (.invokestatic 99, 3) := by decide +kernel
theorem dX9_term_5 : decode cX9_term 5 = .ok (.ifCond .eq 37, 3) := by decide +kernel
theorem dX9_term_8 : decode cX9_term 8 = .ok (.iload 4, 2) := by decide +kernel
theorem dX9_term_10 : decode cX9_term 10 = .ok (.iconst 0, 1) := by decide +kernel
theorem dX9_term_11 : decode cX9_term 11 = .ok (.iconst 5, 1) := by decide +kernel
theorem dX9_term_12 : decode cX9_term 12 = .ok (.invokestatic 53, 3) := by decide +kernel
theorem dX9_term_15 : decode cX9_term 15 = .ok (.ifCond .eq 27, 3) := by decide +kernel
theorem dX9_term_18 : decode cX9_term 18 = .ok (.iload_n 3, 1) := by decide +kernel
theorem dX9_term_19 : decode cX9_term 19 = .ok (.iconst 0, 1) := by decide +kernel
theorem dX9_term_20 : decode cX9_term 20 = .ok (.aload_n 0, 1) := by decide +kernel
theorem dX9_term_21 : decode cX9_term 21 = .ok (.getfield 7, 3) := by decide +kernel
theorem dX9_term_24 : decode cX9_term 24 = .ok (.iload_n 1, 1) := by decide +kernel
theorem dX9_term_25 : decode cX9_term 25 = .ok (.iload_n 2, 1) := by decide +kernel
theorem dX9_term_26 : decode cX9_term 26 = .ok (.invokestatic 111, 3) := by decide +kernel
theorem dX9_term_29 : decode cX9_term 29 = .ok (.iaload, 1) := by decide +kernel
theorem dX9_term_30 : decode cX9_term 30 = .ok (.iconst 1, 1) := by decide +kernel
theorem dX9_term_31 : decode cX9_term 31 = .ok (.isub, 1) := by decide +kernel
theorem dX9_term_32 : decode cX9_term 32 = .ok (.invokestatic 53, 3) := by decide +kernel
theorem dX9_term_35 : decode cX9_term 35 = .ok (.ifCond .eq 7, 3) := by decide +kernel
theorem dX9_term_38 : decode cX9_term 38 = .ok (.iconst 1, 1) := by decide +kernel
theorem dX9_term_39 : decode cX9_term 39 = .ok (.goto 4, 3) := by decide +kernel
theorem dX9_term_42 : decode cX9_term 42 = .ok (.iconst 0, 1) := by decide +kernel
theorem dX9_term_43 : decode cX9_term 43 = .ok (.istore 5, 2) := by decide +kernel
theorem dX9_term_45 : decode cX9_term 45 = .ok (.iload 5, 2) := by decide +kernel
theorem dX9_term_47 : decode cX9_term 47 = .ok (.ifCond .eq 23, 3) := by decide +kernel
theorem dX9_term_50 : decode cX9_term 50 = .ok (.aload_n 0, 1) := by decide +kernel
theorem dX9_term_51 : decode cX9_term 51 = .ok (.getfield 7, 3) := by decide +kernel
theorem dX9_term_54 : decode cX9_term 54 = .ok (.iload_n 1, 1) := by decide +kernel
theorem dX9_term_55 : decode cX9_term 55 = .ok (.iload_n 2, 1) := by decide +kernel
theorem dX9_term_56 : decode cX9_term 56 = .ok (.invokestatic 111, 3) := by decide +kernel
theorem dX9_term_59 : decode cX9_term 59 = .ok (.iload_n 3, 1) := by decide +kernel
theorem dX9_term_60 : decode cX9_term 60 = .ok (.invokestatic 137, 3) := by decide +kernel
theorem dX9_term_63 : decode cX9_term 63 = .ok (.iload 4, 2) := by decide +kernel
theorem dX9_term_65 : decode cX9_term 65 = .ok (.iadd, 1) := by decide +kernel
theorem dX9_term_66 : decode cX9_term 66 = .ok (.iaload, 1) := by decide +kernel
theorem dX9_term_67 : decode cX9_term 67 = .ok (.goto 7, 3) := by decide +kernel
theorem dX9_term_70 : decode cX9_term 70 = .ok (.aload_n 0, 1) := by decide +kernel
theorem dX9_term_71 : decode cX9_term 71 = .ok (.invokevirtual 95, 3) := by decide +kernel
theorem dX9_term_74 : decode cX9_term 74 = .ok (.ireturn, 1) := by decide +kernel
theorem dX9_writes_0 : decode cX9_writes 0 = .ok (.aload_n 0, 1) := by decide +kernel
theorem dX9_writes_1 : decode cX9_writes 1 = .ok (.getfield 28, 3) := by decide +kernel
theorem dX9_writes_4 : decode cX9_writes 4 = .ok (.aload_n 0, 1) := by decide +kernel
theorem dX9_writes_5 : decode cX9_writes 5 = .ok (.getfield 170, 3) := by decide +kernel
theorem dX9_writes_8 : decode cX9_writes 8 = .ok (.iload_n 1, 1) := by decide +kernel
theorem dX9_writes_9 : decode cX9_writes 9 = .ok (.iastore, 1) := by decide +kernel
theorem dX9_writes_10 : decode cX9_writes 10 = .ok (.aload_n 0, 1) := by decide +kernel
theorem dX9_writes_11 : decode cX9_writes 11 = .ok (.dup, 1) := by decide +kernel
theorem dX9_writes_12 : decode cX9_writes 12 = .ok (.getfield 170, 3) := by decide +kernel
theorem dX9_writes_15 : decode cX9_writes 15 = .ok (.iconst 1, 1) := by decide +kernel
theorem dX9_writes_16 : decode cX9_writes 16 = .ok (.iadd, 1) := by decide +kernel
theorem dX9_writes_17 : decode cX9_writes 17 = .ok (.putfield 170, 3) := by decide +kernel
theorem dX9_writes_20 : decode cX9_writes 20 = .ok (.return_, 1) := by decide +kernel
theorem dX9_writesPlace_0 : decode cX9_writesPlace 0 = .ok (.iload_n 3, 1) := by decide +kernel
theorem dX9_writesPlace_1 : decode cX9_writesPlace 1 = .ok (.iconst 1, 1) := by decide +kernel
theorem dX9_writesPlace_2 : decode cX9_writesPlace 2 = .ok (.iand, 1) := by decide +kernel
theorem dX9_writesPlace_3 : decode cX9_writesPlace 3 = .ok (.iconst 1, 1) := by decide +kernel
theorem dX9_writesPlace_4 : decode cX9_writesPlace 4 = .ok (.if_icmp .ne 9, 3) := by decide +kernel
theorem dX9_writesPlace_7 : decode cX9_writesPlace 7 = .ok (.aload_n 0, 1) := by decide +kernel
theorem dX9_writesPlace_8 : decode cX9_writesPlace 8 = .ok (.bipush 36, 2) := by decide +kernel
theorem dX9_writesPlace_10 : decode cX9_writesPlace 10 = .ok (.invokevirtual 173, 3) := by decide +kernel
theorem dX9_writesPlace_13 : decode cX9_writesPlace 13 = .ok (.aload_n 0, 1) := by decide +kernel
theorem dX9_writesPlace_14 : decode cX9_writesPlace 14 = .ok (.bipush 65, 2) := by decide +kernel
theorem dX9_writesPlace_16 : decode cX9_writesPlace 16 = .ok (.iload_n 1, 1) := by decide +kernel
theorem dX9_writesPlace_17 : decode cX9_writesPlace 17 = .ok (.iadd, 1) := by decide +kernel
theorem dX9_writesPlace_18 : decode cX9_writesPlace 18 = .ok (.invokevirtual 173, 3) := by decide +kernel
theorem dX9_writesPlace_21 : decode cX9_writesPlace 21 = .ok (.iload_n 3, 1) := by decide +kernel
theorem dX9_writesPlace_22 : decode cX9_writesPlace 22 = .ok (.iconst 2, 1) := by decide +kernel
theorem dX9_writesPlace_23 : decode cX9_writesPlace 23 = .ok (.iand, 1) := by decide +kernel
theorem dX9_writesPlace_24 : decode cX9_writesPlace 24 = .ok (.iconst 2, 1) := by decide +kernel
theorem dX9_writesPlace_25 : decode cX9_writesPlace 25 = .ok (.if_icmp .ne 9, 3) := by decide +kernel
theorem dX9_writesPlace_28 : decode cX9_writesPlace 28 = .ok (.aload_n 0, 1) := by decide +kernel
theorem dX9_writesPlace_29 : decode cX9_writesPlace 29 = .ok (.bipush 36, 2) := by decide +kernel
theorem dX9_writesPlace_31 : decode cX9_writesPlace 31 = .ok (.invokevirtual 173, 3) := by decide +kernel
theorem dX9_writesPlace_34 : decode cX9_writesPlace 34 = .ok (.aload_n 0, 1) := by decide +kernel
theorem dX9_writesPlace_35 : decode cX9_writesPlace 35 = .ok (.bipush 49, 2) := by decide +kernel
theorem dX9_writesPlace_37 : decode cX9_writesPlace 37 = .ok (.iload_n 2, 1) := by decide +kernel
theorem dX9_writesPlace_38 : decode cX9_writesPlace 38 = .ok (.iadd, 1) := by decide +kernel
theorem dX9_writesPlace_39 : decode cX9_writesPlace 39 = .ok (.invokevirtual 173, 3) := by decide +kernel
theorem dX9_writesPlace_42 : decode cX9_writesPlace 42 = .ok (.return_, 1) := by decide +kernel
theorem dX9_writesNumber_0 : decode cX9_writesNumber 0 = .ok (.iload_n 1, 1) := by decide +kernel
theorem dX9_writesNumber_1 : decode cX9_writesNumber 1 = .ok (.bipush 99, 2) := by decide +kernel
theorem dX9_writesNumber_3 : decode cX9_writesNumber 3 = .ok (.if_icmp .le 14, 3) := by decide +kernel
theorem dX9_writesNumber_6 : decode cX9_writesNumber 6 = .ok (.aload_n 0, 1) := by decide +kernel
theorem dX9_writesNumber_7 : decode cX9_writesNumber 7 = .ok (.bipush 48, 2) := by decide +kernel
theorem dX9_writesNumber_9 : decode cX9_writesNumber 9 = .ok (.iload_n 1, 1) := by decide +kernel
theorem dX9_writesNumber_10 : decode cX9_writesNumber 10 = .ok (.bipush 100, 2) := by decide +kernel
theorem dX9_writesNumber_12 : decode cX9_writesNumber 12 = .ok (.idiv, 1) := by decide +kernel
theorem dX9_writesNumber_13 : decode cX9_writesNumber 13 = .ok (.iadd, 1) := by decide +kernel
theorem dX9_writesNumber_14 : decode cX9_writesNumber 14 = .ok (.invokevirtual 173, 3) := by decide +kernel
theorem dX9_writesNumber_17 : decode cX9_writesNumber 17 = .ok (.iload_n 1, 1) := by decide +kernel
theorem dX9_writesNumber_18 : decode cX9_writesNumber 18 = .ok (.bipush 9, 2) := by decide +kernel
theorem dX9_writesNumber_20 : decode cX9_writesNumber 20 = .ok (.if_icmp .le 17, 3) := by decide +kernel
theorem dX9_writesNumber_23 : decode cX9_writesNumber 23 = .ok (.aload_n 0, 1) := by decide +kernel
theorem dX9_writesNumber_24 : decode cX9_writesNumber 24 = .ok (.bipush 48, 2) := by decide +kernel
theorem dX9_writesNumber_26 : decode cX9_writesNumber 26 = .ok (.iload_n 1, 1) := by decide +kernel
theorem dX9_writesNumber_27 : decode cX9_writesNumber 27 = .ok (.bipush 10, 2) := by decide +kernel
theorem dX9_writesNumber_29 : decode cX9_writesNumber 29 = .ok (.idiv, 1) := by decide +kernel
theorem dX9_writesNumber_30 : decode cX9_writesNumber 30 = .ok (.bipush 10, 2) := by decide +kernel
theorem dX9_writesNumber_32 : decode cX9_writesNumber 32 = .ok (.irem, 1) := by decide +kernel
theorem dX9_writesNumber_33 : decode cX9_writesNumber 33 = .ok (.iadd, 1) := by decide +kernel
theorem dX9_writesNumber_34 : decode cX9_writesNumber 34 = .ok (.invokevirtual 173, 3) := by decide +kernel
theorem dX9_writesNumber_37 : decode cX9_writesNumber 37 = .ok (.aload_n 0, 1) := by decide +kernel
theorem dX9_writesNumber_38 : decode cX9_writesNumber 38 = .ok (.bipush 48, 2) := by decide +kernel
theorem dX9_writesNumber_40 : decode cX9_writesNumber 40 = .ok (.iload_n 1, 1) := by decide +kernel
theorem dX9_writesNumber_41 : decode cX9_writesNumber 41 = .ok (.bipush 10, 2) := by decide +kernel
theorem dX9_writesNumber_43 : decode cX9_writesNumber 43 = .ok (.irem, 1) := by decide +kernel
theorem dX9_writesNumber_44 : decode cX9_writesNumber 44 = .ok (.iadd, 1) := by decide +kernel
theorem dX9_writesNumber_45 : decode cX9_writesNumber 45 = .ok (.invokevirtual 173, 3) := by decide +kernel
theorem dX9_writesNumber_48 : decode cX9_writesNumber 48 = .ok (.return_, 1) := by decide +kernel
theorem dX9_writesTerm_0 : decode cX9_writesTerm 0 = .ok (.aload_n 0, 1) := by decide +kernel
theorem dX9_writesTerm_1 : decode cX9_writesTerm 1 = .ok (.getfield 7, 3) := by decide +kernel
theorem dX9_writesTerm_4 : decode cX9_writesTerm 4 = .ok (.iload_n 1, 1) := by decide +kernel
theorem dX9_writesTerm_5 : decode cX9_writesTerm 5 = .ok (.iconst 0, 1) := by decide +kernel
theorem dX9_writesTerm_6 : decode cX9_writesTerm 6 = .ok (.iadd, 1) := by decide +kernel
theorem dX9_writesTerm_7 : decode cX9_writesTerm 7 = .ok (.iaload, 1) := by decide +kernel
theorem dX9_writesTerm_8 : decode cX9_writesTerm 8 = .ok (.tableswitch 141 0 2 #[28, 43, 74], 28) := by decide +kernel
theorem dX9_writesTerm_36 : decode cX9_writesTerm 36 = .ok (.aload_n 0, 1) := by decide +kernel
theorem dX9_writesTerm_37 : decode cX9_writesTerm 37 = .ok (.aload_n 0, 1) := by decide +kernel
theorem dX9_writesTerm_38 : decode cX9_writesTerm 38 = .ok (.getfield 7, 3) := by decide +kernel
theorem dX9_writesTerm_41 : decode cX9_writesTerm 41 = .ok (.iload_n 1, 1) := by decide +kernel
theorem dX9_writesTerm_42 : decode cX9_writesTerm 42 = .ok (.iconst 1, 1) := by decide +kernel
theorem dX9_writesTerm_43 : decode cX9_writesTerm 43 = .ok (.iadd, 1) := by decide +kernel
theorem dX9_writesTerm_44 : decode cX9_writesTerm 44 = .ok (.iaload, 1) := by decide +kernel
theorem dX9_writesTerm_45 : decode cX9_writesTerm 45 = .ok (.invokevirtual 176, 3) := by decide +kernel
theorem dX9_writesTerm_48 : decode cX9_writesTerm 48 = .ok (.goto 107, 3) := by decide +kernel
theorem dX9_writesTerm_51 : decode cX9_writesTerm 51 = .ok (.aload_n 0, 1) := by decide +kernel
theorem dX9_writesTerm_52 : decode cX9_writesTerm 52 = .ok (.aload_n 0, 1) := by decide +kernel
theorem dX9_writesTerm_53 : decode cX9_writesTerm 53 = .ok (.getfield 7, 3) := by decide +kernel
theorem dX9_writesTerm_56 : decode cX9_writesTerm 56 = .ok (.iload_n 1, 1) := by decide +kernel
theorem dX9_writesTerm_57 : decode cX9_writesTerm 57 = .ok (.iconst 1, 1) := by decide +kernel
theorem dX9_writesTerm_58 : decode cX9_writesTerm 58 = .ok (.iadd, 1) := by decide +kernel
theorem dX9_writesTerm_59 : decode cX9_writesTerm 59 = .ok (.iaload, 1) := by decide +kernel
theorem dX9_writesTerm_60 : decode cX9_writesTerm 60 = .ok (.aload_n 0, 1) := by decide +kernel
theorem dX9_writesTerm_61 : decode cX9_writesTerm 61 = .ok (.getfield 7, 3) := by decide +kernel
theorem dX9_writesTerm_64 : decode cX9_writesTerm 64 = .ok (.iload_n 1, 1) := by decide +kernel
theorem dX9_writesTerm_65 : decode cX9_writesTerm 65 = .ok (.iconst 2, 1) := by decide +kernel
theorem dX9_writesTerm_66 : decode cX9_writesTerm 66 = .ok (.iadd, 1) := by decide +kernel
theorem dX9_writesTerm_67 : decode cX9_writesTerm 67 = .ok (.iaload, 1) := by decide +kernel
theorem dX9_writesTerm_68 : decode cX9_writesTerm 68 = .ok (.aload_n 0, 1) := by decide +kernel
theorem dX9_writesTerm_69 : decode cX9_writesTerm 69 = .ok (.getfield 7, 3) := by decide +kernel
theorem dX9_writesTerm_72 : decode cX9_writesTerm 72 = .ok (.iload_n 1, 1) := by decide +kernel
theorem dX9_writesTerm_73 : decode cX9_writesTerm 73 = .ok (.iconst 5, 1) := by decide +kernel
theorem dX9_writesTerm_74 : decode cX9_writesTerm 74 = .ok (.iadd, 1) := by decide +kernel
theorem dX9_writesTerm_75 : decode cX9_writesTerm 75 = .ok (.iaload, 1) := by decide +kernel
theorem dX9_writesTerm_76 : decode cX9_writesTerm 76 = .ok (.invokevirtual 179, 3) := by decide +kernel
theorem dX9_writesTerm_79 : decode cX9_writesTerm 79 = .ok (.goto 76, 3) := by decide +kernel
theorem dX9_writesTerm_82 : decode cX9_writesTerm 82 = .ok (.aload_n 0, 1) := by decide +kernel
theorem dX9_writesTerm_83 : decode cX9_writesTerm 83 = .ok (.aload_n 0, 1) := by decide +kernel
theorem dX9_writesTerm_84 : decode cX9_writesTerm 84 = .ok (.getfield 7, 3) := by decide +kernel
theorem dX9_writesTerm_87 : decode cX9_writesTerm 87 = .ok (.iload_n 1, 1) := by decide +kernel
theorem dX9_writesTerm_88 : decode cX9_writesTerm 88 = .ok (.iconst 1, 1) := by decide +kernel
theorem dX9_writesTerm_89 : decode cX9_writesTerm 89 = .ok (.iadd, 1) := by decide +kernel
theorem dX9_writesTerm_90 : decode cX9_writesTerm 90 = .ok (.iaload, 1) := by decide +kernel
theorem dX9_writesTerm_91 : decode cX9_writesTerm 91 = .ok (.aload_n 0, 1) := by decide +kernel
theorem dX9_writesTerm_92 : decode cX9_writesTerm 92 = .ok (.getfield 7, 3) := by decide +kernel
theorem dX9_writesTerm_95 : decode cX9_writesTerm 95 = .ok (.iload_n 1, 1) := by decide +kernel
theorem dX9_writesTerm_96 : decode cX9_writesTerm 96 = .ok (.iconst 2, 1) := by decide +kernel
theorem dX9_writesTerm_97 : decode cX9_writesTerm 97 = .ok (.iadd, 1) := by decide +kernel
theorem dX9_writesTerm_98 : decode cX9_writesTerm 98 = .ok (.iaload, 1) := by decide +kernel
theorem dX9_writesTerm_99 : decode cX9_writesTerm 99 = .ok (.aload_n 0, 1) := by decide +kernel
theorem dX9_writesTerm_100 : decode cX9_writesTerm 100 = .ok (.getfield 7, 3) := by decide +kernel
theorem dX9_writesTerm_103 : decode cX9_writesTerm 103 = .ok (.iload_n 1, 1) := by decide +kernel
theorem dX9_writesTerm_104 : decode cX9_writesTerm 104 = .ok (.iconst 5, 1) := by decide +kernel
theorem dX9_writesTerm_105 : decode cX9_writesTerm 105 = .ok (.iadd, 1) := by decide +kernel
theorem dX9_writesTerm_106 : decode cX9_writesTerm 106 = .ok (.iaload, 1) := by decide +kernel
theorem dX9_writesTerm_107 : decode cX9_writesTerm 107 = .ok (.invokevirtual 179, 3) := by decide +kernel
theorem dX9_writesTerm_110 : decode cX9_writesTerm 110 = .ok (.aload_n 0, 1) := by decide +kernel
theorem dX9_writesTerm_111 : decode cX9_writesTerm 111 = .ok (.bipush 58, 2) := by decide +kernel
theorem dX9_writesTerm_113 : decode cX9_writesTerm 113 = .ok (.invokevirtual 173, 3) := by decide +kernel
theorem dX9_writesTerm_116 : decode cX9_writesTerm 116 = .ok (.aload_n 0, 1) := by decide +kernel
theorem dX9_writesTerm_117 : decode cX9_writesTerm 117 = .ok (.aload_n 0, 1) := by decide +kernel
theorem dX9_writesTerm_118 : decode cX9_writesTerm 118 = .ok (.getfield 7, 3) := by decide +kernel
theorem dX9_writesTerm_121 : decode cX9_writesTerm 121 = .ok (.iload_n 1, 1) := by decide +kernel
theorem dX9_writesTerm_122 : decode cX9_writesTerm 122 = .ok (.iconst 3, 1) := by decide +kernel
theorem dX9_writesTerm_123 : decode cX9_writesTerm 123 = .ok (.iadd, 1) := by decide +kernel
theorem dX9_writesTerm_124 : decode cX9_writesTerm 124 = .ok (.iaload, 1) := by decide +kernel
theorem dX9_writesTerm_125 : decode cX9_writesTerm 125 = .ok (.aload_n 0, 1) := by decide +kernel
theorem dX9_writesTerm_126 : decode cX9_writesTerm 126 = .ok (.getfield 7, 3) := by decide +kernel
theorem dX9_writesTerm_129 : decode cX9_writesTerm 129 = .ok (.iload_n 1, 1) := by decide +kernel
theorem dX9_writesTerm_130 : decode cX9_writesTerm 130 = .ok (.iconst 4, 1) := by decide +kernel
theorem dX9_writesTerm_131 : decode cX9_writesTerm 131 = .ok (.iadd, 1) := by decide +kernel
theorem dX9_writesTerm_132 : decode cX9_writesTerm 132 = .ok (.iaload, 1) := by decide +kernel
theorem dX9_writesTerm_133 : decode cX9_writesTerm 133 = .ok (.aload_n 0, 1) := by decide +kernel
theorem dX9_writesTerm_134 : decode cX9_writesTerm 134 = .ok (.getfield 7, 3) := by decide +kernel
theorem dX9_writesTerm_137 : decode cX9_writesTerm 137 = .ok (.iload_n 1, 1) := by decide +kernel
theorem dX9_writesTerm_138 : decode cX9_writesTerm 138 = .ok (.iconst 5, 1) := by decide +kernel
theorem dX9_writesTerm_139 : decode cX9_writesTerm 139 = .ok (.iadd, 1) := by decide +kernel
theorem dX9_writesTerm_140 : decode cX9_writesTerm 140 = .ok (.iaload, 1) := by decide +kernel
theorem dX9_writesTerm_141 : decode cX9_writesTerm 141 = .ok (.iconst 2, 1) := by decide +kernel
theorem dX9_writesTerm_142 : decode cX9_writesTerm 142 = .ok (.ishr, 1) := by decide +kernel
theorem dX9_writesTerm_143 : decode cX9_writesTerm 143 = .ok (.invokevirtual 179, 3) := by decide +kernel
theorem dX9_writesTerm_146 : decode cX9_writesTerm 146 = .ok (.goto 9, 3) := by decide +kernel
theorem dX9_writesTerm_149 : decode cX9_writesTerm 149 = .ok (.aload_n 0, 1) := by decide +kernel
theorem dX9_writesTerm_150 : decode cX9_writesTerm 150 = .ok (.bipush 35, 2) := by decide +kernel
theorem dX9_writesTerm_152 : decode cX9_writesTerm 152 = .ok (.invokevirtual 173, 3) := by decide +kernel
theorem dX9_writesTerm_155 : decode cX9_writesTerm 155 = .ok (.return_, 1) := by decide +kernel
theorem dX9_shown_0 : decode cX9_shown 0 = .ok (.iload_n 1, 1) := by decide +kernel
theorem dX9_shown_1 : decode cX9_shown 1 = .ok (.iload_n 2, 1) := by decide +kernel
theorem dX9_shown_2 : decode cX9_shown 2 = .ok (.invokestatic 99, 3) := by decide +kernel
theorem dX9_shown_5 : decode cX9_shown 5 = .ok (.ifCond .eq 7, 3) := by decide +kernel
theorem dX9_shown_8 : decode cX9_shown 8 = .ok (.iload_n 3, 1) := by decide +kernel
theorem dX9_shown_9 : decode cX9_shown 9 = .ok (.ifCond .ge 8, 3) := by decide +kernel
theorem dX9_shown_12 : decode cX9_shown 12 = .ok (.aload_n 0, 1) := by decide +kernel
theorem dX9_shown_13 : decode cX9_shown 13 = .ok (.invokevirtual 95, 3) := by decide +kernel
theorem dX9_shown_16 : decode cX9_shown 16 = .ok (.ireturn, 1) := by decide +kernel
theorem dX9_shown_17 : decode cX9_shown 17 = .ok (.aload_n 0, 1) := by decide +kernel
theorem dX9_shown_18 : decode cX9_shown 18 = .ok (.iconst 0, 1) := by decide +kernel
theorem dX9_shown_19 : decode cX9_shown 19 = .ok (.putfield 170, 3) := by decide +kernel
theorem dX9_shown_22 : decode cX9_shown 22 = .ok (.iload_n 1, 1) := by decide +kernel
theorem dX9_shown_23 : decode cX9_shown 23 = .ok (.iload_n 2, 1) := by decide +kernel
theorem dX9_shown_24 : decode cX9_shown 24 = .ok (.invokestatic 111, 3) := by decide +kernel
theorem dX9_shown_27 : decode cX9_shown 27 = .ok (.istore 4, 2) := by decide +kernel
theorem dX9_shown_29 : decode cX9_shown 29 = .ok (.iconst 0, 1) := by decide +kernel
theorem dX9_shown_30 : decode cX9_shown 30 = .ok (.istore 5, 2) := by decide +kernel
theorem dX9_shown_32 : decode cX9_shown 32 = .ok (.iload 5, 2) := by decide +kernel
theorem dX9_shown_34 : decode cX9_shown 34 = .ok (.aload_n 0, 1) := by decide +kernel
theorem dX9_shown_35 : decode cX9_shown 35 = .ok (.getfield 7, 3) := by decide +kernel
theorem dX9_shown_38 : decode cX9_shown 38 = .ok (.iload 4, 2) := by decide +kernel
theorem dX9_shown_40 : decode cX9_shown 40 = .ok (.iaload, 1) := by decide +kernel
theorem dX9_shown_41 : decode cX9_shown 41 = .ok (.if_icmp .ge 31, 3) := by decide +kernel
theorem dX9_shown_44 : decode cX9_shown 44 = .ok (.iload 5, 2) := by decide +kernel
theorem dX9_shown_46 : decode cX9_shown 46 = .ok (.ifCond .le 9, 3) := by decide +kernel
theorem dX9_shown_49 : decode cX9_shown 49 = .ok (.aload_n 0, 1) := by decide +kernel
theorem dX9_shown_50 : decode cX9_shown 50 = .ok (.bipush 43, 2) := by decide +kernel
theorem dX9_shown_52 : decode cX9_shown 52 = .ok (.invokevirtual 173, 3) := by decide +kernel
theorem dX9_shown_55 : decode cX9_shown 55 = .ok (.aload_n 0, 1) := by decide +kernel
theorem dX9_shown_56 : decode cX9_shown 56 = .ok (.iload 4, 2) := by decide +kernel
theorem dX9_shown_58 : decode cX9_shown 58 = .ok (.iload 5, 2) := by decide +kernel
theorem dX9_shown_60 : decode cX9_shown 60 = .ok (.invokestatic 137, 3) := by decide +kernel
theorem dX9_shown_63 : decode cX9_shown 63 = .ok (.invokevirtual 182, 3) := by decide +kernel
theorem dX9_shown_66 : decode cX9_shown 66 = .ok (.iinc 5 1, 3) := by decide +kernel
theorem dX9_shown_69 : decode cX9_shown 69 = .ok (.goto (-37), 3) := by decide +kernel
theorem dX9_shown_72 : decode cX9_shown 72 = .ok (.iload_n 3, 1) := by decide +kernel
theorem dX9_shown_73 : decode cX9_shown 73 = .ok (.aload_n 0, 1) := by decide +kernel
theorem dX9_shown_74 : decode cX9_shown 74 = .ok (.getfield 170, 3) := by decide +kernel
theorem dX9_shown_77 : decode cX9_shown 77 = .ok (.if_icmp .ge 12, 3) := by decide +kernel
theorem dX9_shown_80 : decode cX9_shown 80 = .ok (.aload_n 0, 1) := by decide +kernel
theorem dX9_shown_81 : decode cX9_shown 81 = .ok (.getfield 28, 3) := by decide +kernel
theorem dX9_shown_84 : decode cX9_shown 84 = .ok (.iload_n 3, 1) := by decide +kernel
theorem dX9_shown_85 : decode cX9_shown 85 = .ok (.iaload, 1) := by decide +kernel
theorem dX9_shown_86 : decode cX9_shown 86 = .ok (.goto 4, 3) := by decide +kernel
theorem dX9_shown_89 : decode cX9_shown 89 = .ok (.iconst (-1), 1) := by decide +kernel
theorem dX9_shown_90 : decode cX9_shown 90 = .ok (.ireturn, 1) := by decide +kernel
theorem dX9_meets_0 : decode cX9_meets 0 = .ok (.aload_n 0, 1) := by decide +kernel
theorem dX9_meets_1 : decode cX9_meets 1 = .ok (.iload_n 1, 1) := by decide +kernel
theorem dX9_meets_2 : decode cX9_meets 2 = .ok (.putfield 185, 3) := by decide +kernel
theorem dX9_meets_5 : decode cX9_meets 5 = .ok (.aload_n 0, 1) := by decide +kernel
theorem dX9_meets_6 : decode cX9_meets 6 = .ok (.iload_n 2, 1) := by decide +kernel
theorem dX9_meets_7 : decode cX9_meets 7 = .ok (.putfield 188, 3) := by decide +kernel
theorem dX9_meets_10 : decode cX9_meets 10 = .ok (.aload_n 0, 1) := by decide +kernel
theorem dX9_meets_11 : decode cX9_meets 11 = .ok (.aload_n 0, 1) := by decide +kernel
theorem dX9_meets_12 : decode cX9_meets 12 = .ok (.getfield 191, 3) := by decide +kernel
theorem dX9_meets_15 : decode cX9_meets 15 = .ok (.iconst 1, 1) := by decide +kernel
theorem dX9_meets_16 : decode cX9_meets 16 = .ok (.isub, 1) := by decide +kernel
theorem dX9_meets_17 : decode cX9_meets 17 = .ok (.putfield 194, 3) := by decide +kernel
theorem dX9_meets_20 : decode cX9_meets 20 = .ok (.return_, 1) := by decide +kernel
theorem dX9_adds_0 : decode cX9_adds 0 = .ok (.aload_n 0, 1) := by decide +kernel
theorem dX9_adds_1 : decode cX9_adds 1 = .ok (.getfield 46, 3) := by decide +kernel
theorem dX9_adds_4 : decode cX9_adds 4 = .ok (.aload_n 0, 1) := by decide +kernel
theorem dX9_adds_5 : decode cX9_adds 5 = .ok (.getfield 191, 3) := by decide +kernel
theorem dX9_adds_8 : decode cX9_adds 8 = .ok (.iconst 1, 1) := by decide +kernel
theorem dX9_adds_9 : decode cX9_adds 9 = .ok (.isub, 1) := by decide +kernel
theorem dX9_adds_10 : decode cX9_adds 10 = .ok (.dup2, 1) := by decide +kernel
theorem dX9_adds_11 : decode cX9_adds 11 = .ok (.iaload, 1) := by decide +kernel
theorem dX9_adds_12 : decode cX9_adds 12 = .ok (.iload_n 1, 1) := by decide +kernel
theorem dX9_adds_13 : decode cX9_adds 13 = .ok (.iadd, 1) := by decide +kernel
theorem dX9_adds_14 : decode cX9_adds 14 = .ok (.iastore, 1) := by decide +kernel
theorem dX9_adds_15 : decode cX9_adds 15 = .ok (.aload_n 0, 1) := by decide +kernel
theorem dX9_adds_16 : decode cX9_adds 16 = .ok (.getfield 46, 3) := by decide +kernel
theorem dX9_adds_19 : decode cX9_adds 19 = .ok (.aload_n 0, 1) := by decide +kernel
theorem dX9_adds_20 : decode cX9_adds 20 = .ok (.getfield 191, 3) := by decide +kernel
theorem dX9_adds_23 : decode cX9_adds 23 = .ok (.iconst 1, 1) := by decide +kernel
theorem dX9_adds_24 : decode cX9_adds 24 = .ok (.isub, 1) := by decide +kernel
theorem dX9_adds_25 : decode cX9_adds 25 = .ok (.iaload, 1) := by decide +kernel
theorem dX9_adds_26 : decode cX9_adds 26 = .ok (.ldc 197, 2) := by decide +kernel
theorem dX9_adds_28 : decode cX9_adds 28 = .ok (.if_icmp .le 19, 3) := by decide +kernel
theorem dX9_adds_31 : decode cX9_adds 31 = .ok (.aload_n 0, 1) := by decide +kernel
theorem dX9_adds_32 : decode cX9_adds 32 = .ok (.iconst 3, 1) := by decide +kernel
theorem dX9_adds_33 : decode cX9_adds 33 = .ok (.aload_n 0, 1) := by decide +kernel
theorem dX9_adds_34 : decode cX9_adds 34 = .ok (.getfield 37, 3) := by decide +kernel
theorem dX9_adds_37 : decode cX9_adds 37 = .ok (.aload_n 0, 1) := by decide +kernel
theorem dX9_adds_38 : decode cX9_adds 38 = .ok (.getfield 191, 3) := by decide +kernel
theorem dX9_adds_41 : decode cX9_adds 41 = .ok (.iconst 1, 1) := by decide +kernel
theorem dX9_adds_42 : decode cX9_adds 42 = .ok (.isub, 1) := by decide +kernel
theorem dX9_adds_43 : decode cX9_adds 43 = .ok (.iaload, 1) := by decide +kernel
theorem dX9_adds_44 : decode cX9_adds 44 = .ok (.invokevirtual 198, 3) := by decide +kernel
theorem dX9_adds_47 : decode cX9_adds 47 = .ok (.return_, 1) := by decide +kernel
theorem dX9_asks_0 : decode cX9_asks 0 = .ok (.aload_n 0, 1) := by decide +kernel
theorem dX9_asks_1 : decode cX9_asks 1 = .ok (.getfield 31, 3) := by decide +kernel
theorem dX9_asks_4 : decode cX9_asks 4 = .ok (.iload_n 1, 1) := by decide +kernel
theorem dX9_asks_5 : decode cX9_asks 5 = .ok (.iaload, 1) := by decide +kernel
theorem dX9_asks_6 : decode cX9_asks 6 = .ok (.iconst 1, 1) := by decide +kernel
theorem dX9_asks_7 : decode cX9_asks 7 = .ok (.if_icmp .ne 12, 3) := by decide +kernel
theorem dX9_asks_10 : decode cX9_asks 10 = .ok (.aload_n 0, 1) := by decide +kernel
theorem dX9_asks_11 : decode cX9_asks 11 = .ok (.iconst 2, 1) := by decide +kernel
theorem dX9_asks_12 : decode cX9_asks 12 = .ok (.iload_n 1, 1) := by decide +kernel
theorem dX9_asks_13 : decode cX9_asks 13 = .ok (.invokevirtual 198, 3) := by decide +kernel
theorem dX9_asks_16 : decode cX9_asks 16 = .ok (.goto 83, 3) := by decide +kernel
theorem dX9_asks_19 : decode cX9_asks 19 = .ok (.aload_n 0, 1) := by decide +kernel
theorem dX9_asks_20 : decode cX9_asks 20 = .ok (.getfield 31, 3) := by decide +kernel
theorem dX9_asks_23 : decode cX9_asks 23 = .ok (.iload_n 1, 1) := by decide +kernel
theorem dX9_asks_24 : decode cX9_asks 24 = .ok (.iaload, 1) := by decide +kernel
theorem dX9_asks_25 : decode cX9_asks 25 = .ok (.iconst 2, 1) := by decide +kernel
theorem dX9_asks_26 : decode cX9_asks 26 = .ok (.if_icmp .ne 16, 3) := by decide +kernel
theorem dX9_asks_29 : decode cX9_asks 29 = .ok (.aload_n 0, 1) := by decide +kernel
theorem dX9_asks_30 : decode cX9_asks 30 = .ok (.aload_n 0, 1) := by decide +kernel
theorem dX9_asks_31 : decode cX9_asks 31 = .ok (.getfield 34, 3) := by decide +kernel
theorem dX9_asks_34 : decode cX9_asks 34 = .ok (.iload_n 1, 1) := by decide +kernel
theorem dX9_asks_35 : decode cX9_asks 35 = .ok (.iaload, 1) := by decide +kernel
theorem dX9_asks_36 : decode cX9_asks 36 = .ok (.invokevirtual 201, 3) := by decide +kernel
theorem dX9_asks_39 : decode cX9_asks 39 = .ok (.goto 60, 3) := by decide +kernel
theorem dX9_asks_42 : decode cX9_asks 42 = .ok (.aload_n 0, 1) := by decide +kernel
theorem dX9_asks_43 : decode cX9_asks 43 = .ok (.getfield 31, 3) := by decide +kernel
theorem dX9_asks_46 : decode cX9_asks 46 = .ok (.iload_n 1, 1) := by decide +kernel
theorem dX9_asks_47 : decode cX9_asks 47 = .ok (.iconst 1, 1) := by decide +kernel
theorem dX9_asks_48 : decode cX9_asks 48 = .ok (.iastore, 1) := by decide +kernel
theorem dX9_asks_49 : decode cX9_asks 49 = .ok (.aload_n 0, 1) := by decide +kernel
theorem dX9_asks_50 : decode cX9_asks 50 = .ok (.getfield 37, 3) := by decide +kernel
theorem dX9_asks_53 : decode cX9_asks 53 = .ok (.aload_n 0, 1) := by decide +kernel
theorem dX9_asks_54 : decode cX9_asks 54 = .ok (.getfield 191, 3) := by decide +kernel
theorem dX9_asks_57 : decode cX9_asks 57 = .ok (.iload_n 1, 1) := by decide +kernel
theorem dX9_asks_58 : decode cX9_asks 58 = .ok (.iastore, 1) := by decide +kernel
theorem dX9_asks_59 : decode cX9_asks 59 = .ok (.aload_n 0, 1) := by decide +kernel
theorem dX9_asks_60 : decode cX9_asks 60 = .ok (.getfield 40, 3) := by decide +kernel
theorem dX9_asks_63 : decode cX9_asks 63 = .ok (.aload_n 0, 1) := by decide +kernel
theorem dX9_asks_64 : decode cX9_asks 64 = .ok (.getfield 191, 3) := by decide +kernel
theorem dX9_asks_67 : decode cX9_asks 67 = .ok (.iconst 0, 1) := by decide +kernel
theorem dX9_asks_68 : decode cX9_asks 68 = .ok (.iastore, 1) := by decide +kernel
theorem dX9_asks_69 : decode cX9_asks 69 = .ok (.aload_n 0, 1) := by decide +kernel
theorem dX9_asks_70 : decode cX9_asks 70 = .ok (.getfield 43, 3) := by decide +kernel
theorem dX9_asks_73 : decode cX9_asks 73 = .ok (.aload_n 0, 1) := by decide +kernel
theorem dX9_asks_74 : decode cX9_asks 74 = .ok (.getfield 191, 3) := by decide +kernel
theorem dX9_asks_77 : decode cX9_asks 77 = .ok (.iconst 0, 1) := by decide +kernel
theorem dX9_asks_78 : decode cX9_asks 78 = .ok (.iastore, 1) := by decide +kernel
theorem dX9_asks_79 : decode cX9_asks 79 = .ok (.aload_n 0, 1) := by decide +kernel
theorem dX9_asks_80 : decode cX9_asks 80 = .ok (.getfield 46, 3) := by decide +kernel
theorem dX9_asks_83 : decode cX9_asks 83 = .ok (.aload_n 0, 1) := by decide +kernel
theorem dX9_asks_84 : decode cX9_asks 84 = .ok (.getfield 191, 3) := by decide +kernel
theorem dX9_asks_87 : decode cX9_asks 87 = .ok (.iconst 0, 1) := by decide +kernel
theorem dX9_asks_88 : decode cX9_asks 88 = .ok (.iastore, 1) := by decide +kernel
theorem dX9_asks_89 : decode cX9_asks 89 = .ok (.aload_n 0, 1) := by decide +kernel
theorem dX9_asks_90 : decode cX9_asks 90 = .ok (.dup, 1) := by decide +kernel
theorem dX9_asks_91 : decode cX9_asks 91 = .ok (.getfield 191, 3) := by decide +kernel
theorem dX9_asks_94 : decode cX9_asks 94 = .ok (.iconst 1, 1) := by decide +kernel
theorem dX9_asks_95 : decode cX9_asks 95 = .ok (.iadd, 1) := by decide +kernel
theorem dX9_asks_96 : decode cX9_asks 96 = .ok (.putfield 191, 3) := by decide +kernel
theorem dX9_asks_99 : decode cX9_asks 99 = .ok (.return_, 1) := by decide +kernel
theorem dX9_asksOfBlock_0 : decode cX9_asksOfBlock 0 = .ok (.aload_n 0, 1) := by decide +kernel
theorem dX9_asksOfBlock_1 : decode cX9_asksOfBlock 1 = .ok (.getfield 7, 3) := by decide +kernel
theorem dX9_asksOfBlock_4 : decode cX9_asksOfBlock 4 = .ok (.iload_n 2, 1) := by decide +kernel
theorem dX9_asksOfBlock_5 : decode cX9_asksOfBlock 5 = .ok (.iconst 3, 1) := by decide +kernel
theorem dX9_asksOfBlock_6 : decode cX9_asksOfBlock 6 = .ok (.iadd, 1) := by decide +kernel
theorem dX9_asksOfBlock_7 : decode cX9_asksOfBlock 7 = .ok (.iaload, 1) := by decide +kernel
theorem dX9_asksOfBlock_8 : decode cX9_asksOfBlock 8 = .ok (.aload_n 0, 1) := by decide +kernel
theorem dX9_asksOfBlock_9 : decode cX9_asksOfBlock 9 = .ok (.getfield 7, 3) := by decide +kernel
theorem dX9_asksOfBlock_12 : decode cX9_asksOfBlock 12 = .ok (.iload_n 2, 1) := by decide +kernel
theorem dX9_asksOfBlock_13 : decode cX9_asksOfBlock 13 = .ok (.iconst 1, 1) := by decide +kernel
theorem dX9_asksOfBlock_14 : decode cX9_asksOfBlock 14 = .ok (.iadd, 1) := by decide +kernel
theorem dX9_asksOfBlock_15 : decode cX9_asksOfBlock 15 = .ok (.iaload, 1) := by decide +kernel
theorem dX9_asksOfBlock_16 : decode cX9_asksOfBlock 16 = .ok (.isub, 1) := by decide +kernel
theorem dX9_asksOfBlock_17 : decode cX9_asksOfBlock 17 = .ok (.iconst 1, 1) := by decide +kernel
theorem dX9_asksOfBlock_18 : decode cX9_asksOfBlock 18 = .ok (.iadd, 1) := by decide +kernel
theorem dX9_asksOfBlock_19 : decode cX9_asksOfBlock 19 = .ok (.istore_n 3, 1) := by decide +kernel
theorem dX9_asksOfBlock_20 : decode cX9_asksOfBlock 20 = .ok (.aload_n 0, 1) := by decide +kernel
theorem dX9_asksOfBlock_21 : decode cX9_asksOfBlock 21 = .ok (.getfield 7, 3) := by decide +kernel
theorem dX9_asksOfBlock_24 : decode cX9_asksOfBlock 24 = .ok (.iload_n 2, 1) := by decide +kernel
theorem dX9_asksOfBlock_25 : decode cX9_asksOfBlock 25 = .ok (.iconst 4, 1) := by decide +kernel
theorem dX9_asksOfBlock_26 : decode cX9_asksOfBlock 26 = .ok (.iadd, 1) := by decide +kernel
theorem dX9_asksOfBlock_27 : decode cX9_asksOfBlock 27 = .ok (.iaload, 1) := by decide +kernel
theorem dX9_asksOfBlock_28 : decode cX9_asksOfBlock 28 = .ok (.aload_n 0, 1) := by decide +kernel
theorem dX9_asksOfBlock_29 : decode cX9_asksOfBlock 29 = .ok (.getfield 7, 3) := by decide +kernel
theorem dX9_asksOfBlock_32 : decode cX9_asksOfBlock 32 = .ok (.iload_n 2, 1) := by decide +kernel
theorem dX9_asksOfBlock_33 : decode cX9_asksOfBlock 33 = .ok (.iconst 2, 1) := by decide +kernel
theorem dX9_asksOfBlock_34 : decode cX9_asksOfBlock 34 = .ok (.iadd, 1) := by decide +kernel
theorem dX9_asksOfBlock_35 : decode cX9_asksOfBlock 35 = .ok (.iaload, 1) := by decide +kernel
theorem dX9_asksOfBlock_36 : decode cX9_asksOfBlock 36 = .ok (.isub, 1) := by decide +kernel
theorem dX9_asksOfBlock_37 : decode cX9_asksOfBlock 37 = .ok (.iconst 1, 1) := by decide +kernel
theorem dX9_asksOfBlock_38 : decode cX9_asksOfBlock 38 = .ok (.iadd, 1) := by decide +kernel
theorem dX9_asksOfBlock_39 : decode cX9_asksOfBlock 39 = .ok (.istore 4, 2) := by decide +kernel
theorem dX9_asksOfBlock_41 : decode cX9_asksOfBlock 41 = .ok (.aload_n 0, 1) := by decide +kernel
theorem dX9_asksOfBlock_42 : decode cX9_asksOfBlock 42 = .ok (.getfield 43, 3) := by decide +kernel
theorem dX9_asksOfBlock_45 : decode cX9_asksOfBlock 45 = .ok (.iload_n 1, 1) := by decide +kernel
theorem dX9_asksOfBlock_46 : decode cX9_asksOfBlock 46 = .ok (.iaload, 1) := by decide +kernel
theorem dX9_asksOfBlock_47 : decode cX9_asksOfBlock 47 = .ok (.istore 5, 2) := by decide +kernel
theorem dX9_asksOfBlock_49 : decode cX9_asksOfBlock 49 = .ok (.iload 5, 2) := by decide +kernel
theorem dX9_asksOfBlock_51 : decode cX9_asksOfBlock 51 = .ok (.iload_n 3, 1) := by decide +kernel
theorem dX9_asksOfBlock_52 : decode cX9_asksOfBlock 52 = .ok (.iload 4, 2) := by decide +kernel
theorem dX9_asksOfBlock_54 : decode cX9_asksOfBlock 54 = .ok (.imul, 1) := by decide +kernel
theorem dX9_asksOfBlock_55 : decode cX9_asksOfBlock 55 = .ok (.if_icmp .ne 23, 3) := by decide +kernel
theorem dX9_asksOfBlock_58 : decode cX9_asksOfBlock 58 = .ok (.aload_n 0, 1) := by decide +kernel
theorem dX9_asksOfBlock_59 : decode cX9_asksOfBlock 59 = .ok (.getfield 43, 3) := by decide +kernel
theorem dX9_asksOfBlock_62 : decode cX9_asksOfBlock 62 = .ok (.iload_n 1, 1) := by decide +kernel
theorem dX9_asksOfBlock_63 : decode cX9_asksOfBlock 63 = .ok (.iconst 0, 1) := by decide +kernel
theorem dX9_asksOfBlock_64 : decode cX9_asksOfBlock 64 = .ok (.iastore, 1) := by decide +kernel
theorem dX9_asksOfBlock_65 : decode cX9_asksOfBlock 65 = .ok (.aload_n 0, 1) := by decide +kernel
theorem dX9_asksOfBlock_66 : decode cX9_asksOfBlock 66 = .ok (.getfield 40, 3) := by decide +kernel
theorem dX9_asksOfBlock_69 : decode cX9_asksOfBlock 69 = .ok (.iload_n 1, 1) := by decide +kernel
theorem dX9_asksOfBlock_70 : decode cX9_asksOfBlock 70 = .ok (.dup2, 1) := by decide +kernel
theorem dX9_asksOfBlock_71 : decode cX9_asksOfBlock 71 = .ok (.iaload, 1) := by decide +kernel
theorem dX9_asksOfBlock_72 : decode cX9_asksOfBlock 72 = .ok (.iconst 1, 1) := by decide +kernel
theorem dX9_asksOfBlock_73 : decode cX9_asksOfBlock 73 = .ok (.iadd, 1) := by decide +kernel
theorem dX9_asksOfBlock_74 : decode cX9_asksOfBlock 74 = .ok (.iastore, 1) := by decide +kernel
theorem dX9_asksOfBlock_75 : decode cX9_asksOfBlock 75 = .ok (.goto 47, 3) := by decide +kernel
theorem dX9_asksOfBlock_78 : decode cX9_asksOfBlock 78 = .ok (.aload_n 0, 1) := by decide +kernel
theorem dX9_asksOfBlock_79 : decode cX9_asksOfBlock 79 = .ok (.getfield 43, 3) := by decide +kernel
theorem dX9_asksOfBlock_82 : decode cX9_asksOfBlock 82 = .ok (.iload_n 1, 1) := by decide +kernel
theorem dX9_asksOfBlock_83 : decode cX9_asksOfBlock 83 = .ok (.dup2, 1) := by decide +kernel
theorem dX9_asksOfBlock_84 : decode cX9_asksOfBlock 84 = .ok (.iaload, 1) := by decide +kernel
theorem dX9_asksOfBlock_85 : decode cX9_asksOfBlock 85 = .ok (.iconst 1, 1) := by decide +kernel
theorem dX9_asksOfBlock_86 : decode cX9_asksOfBlock 86 = .ok (.iadd, 1) := by decide +kernel
theorem dX9_asksOfBlock_87 : decode cX9_asksOfBlock 87 = .ok (.iastore, 1) := by decide +kernel
theorem dX9_asksOfBlock_88 : decode cX9_asksOfBlock 88 = .ok (.aload_n 0, 1) := by decide +kernel
theorem dX9_asksOfBlock_89 : decode cX9_asksOfBlock 89 = .ok (.bipush 6, 2) := by decide +kernel
theorem dX9_asksOfBlock_91 : decode cX9_asksOfBlock 91 = .ok (.aload_n 0, 1) := by decide +kernel
theorem dX9_asksOfBlock_92 : decode cX9_asksOfBlock 92 = .ok (.getfield 7, 3) := by decide +kernel
theorem dX9_asksOfBlock_95 : decode cX9_asksOfBlock 95 = .ok (.iload_n 2, 1) := by decide +kernel
theorem dX9_asksOfBlock_96 : decode cX9_asksOfBlock 96 = .ok (.iconst 2, 1) := by decide +kernel
theorem dX9_asksOfBlock_97 : decode cX9_asksOfBlock 97 = .ok (.iadd, 1) := by decide +kernel
theorem dX9_asksOfBlock_98 : decode cX9_asksOfBlock 98 = .ok (.iaload, 1) := by decide +kernel
theorem dX9_asksOfBlock_99 : decode cX9_asksOfBlock 99 = .ok (.iload 5, 2) := by decide +kernel
theorem dX9_asksOfBlock_101 : decode cX9_asksOfBlock 101 = .ok (.iload_n 3, 1) := by decide +kernel
theorem dX9_asksOfBlock_102 : decode cX9_asksOfBlock 102 = .ok (.idiv, 1) := by decide +kernel
theorem dX9_asksOfBlock_103 : decode cX9_asksOfBlock 103 = .ok (.iadd, 1) := by decide +kernel
theorem dX9_asksOfBlock_104 : decode cX9_asksOfBlock 104 = .ok (.imul, 1) := by decide +kernel
theorem dX9_asksOfBlock_105 : decode cX9_asksOfBlock 105 = .ok (.aload_n 0, 1) := by decide +kernel
theorem dX9_asksOfBlock_106 : decode cX9_asksOfBlock 106 = .ok (.getfield 7, 3) := by decide +kernel
theorem dX9_asksOfBlock_109 : decode cX9_asksOfBlock 109 = .ok (.iload_n 2, 1) := by decide +kernel
theorem dX9_asksOfBlock_110 : decode cX9_asksOfBlock 110 = .ok (.iconst 1, 1) := by decide +kernel
theorem dX9_asksOfBlock_111 : decode cX9_asksOfBlock 111 = .ok (.iadd, 1) := by decide +kernel
theorem dX9_asksOfBlock_112 : decode cX9_asksOfBlock 112 = .ok (.iaload, 1) := by decide +kernel
theorem dX9_asksOfBlock_113 : decode cX9_asksOfBlock 113 = .ok (.iadd, 1) := by decide +kernel
theorem dX9_asksOfBlock_114 : decode cX9_asksOfBlock 114 = .ok (.iload 5, 2) := by decide +kernel
theorem dX9_asksOfBlock_116 : decode cX9_asksOfBlock 116 = .ok (.iload_n 3, 1) := by decide +kernel
theorem dX9_asksOfBlock_117 : decode cX9_asksOfBlock 117 = .ok (.irem, 1) := by decide +kernel
theorem dX9_asksOfBlock_118 : decode cX9_asksOfBlock 118 = .ok (.iadd, 1) := by decide +kernel
theorem dX9_asksOfBlock_119 : decode cX9_asksOfBlock 119 = .ok (.invokevirtual 204, 3) := by decide +kernel
theorem dX9_asksOfBlock_122 : decode cX9_asksOfBlock 122 = .ok (.return_, 1) := by decide +kernel
theorem dX9_goesOnAsking_0 : decode cX9_goesOnAsking 0 = .ok (.aload_n 0, 1) := by decide +kernel
theorem dX9_goesOnAsking_1 : decode cX9_goesOnAsking 1 = .ok (.getfield 191, 3) := by decide +kernel
theorem dX9_goesOnAsking_4 : decode cX9_goesOnAsking 4 = .ok (.iconst 1, 1) := by decide +kernel
theorem dX9_goesOnAsking_5 : decode cX9_goesOnAsking 5 = .ok (.isub, 1) := by decide +kernel
theorem dX9_goesOnAsking_6 : decode cX9_goesOnAsking 6 = .ok (.istore_n 1, 1) := by decide +kernel
theorem dX9_goesOnAsking_7 : decode cX9_goesOnAsking 7 = .ok (.aload_n 0, 1) := by decide +kernel
theorem dX9_goesOnAsking_8 : decode cX9_goesOnAsking 8 = .ok (.getfield 37, 3) := by decide +kernel
theorem dX9_goesOnAsking_11 : decode cX9_goesOnAsking 11 = .ok (.iload_n 1, 1) := by decide +kernel
theorem dX9_goesOnAsking_12 : decode cX9_goesOnAsking 12 = .ok (.iaload, 1) := by decide +kernel
theorem dX9_goesOnAsking_13 : decode cX9_goesOnAsking 13 = .ok (.istore_n 2, 1) := by decide +kernel
theorem dX9_goesOnAsking_14 : decode cX9_goesOnAsking 14 = .ok (.aload_n 0, 1) := by decide +kernel
theorem dX9_goesOnAsking_15 : decode cX9_goesOnAsking 15 = .ok (.getfield 40, 3) := by decide +kernel
theorem dX9_goesOnAsking_18 : decode cX9_goesOnAsking 18 = .ok (.iload_n 1, 1) := by decide +kernel
theorem dX9_goesOnAsking_19 : decode cX9_goesOnAsking 19 = .ok (.iaload, 1) := by decide +kernel
theorem dX9_goesOnAsking_20 : decode cX9_goesOnAsking 20 = .ok (.aload_n 0, 1) := by decide +kernel
theorem dX9_goesOnAsking_21 : decode cX9_goesOnAsking 21 = .ok (.getfield 7, 3) := by decide +kernel
theorem dX9_goesOnAsking_24 : decode cX9_goesOnAsking 24 = .ok (.bipush 25, 2) := by decide +kernel
theorem dX9_goesOnAsking_26 : decode cX9_goesOnAsking 26 = .ok (.iload_n 2, 1) := by decide +kernel
theorem dX9_goesOnAsking_27 : decode cX9_goesOnAsking 27 = .ok (.imul, 1) := by decide +kernel
theorem dX9_goesOnAsking_28 : decode cX9_goesOnAsking 28 = .ok (.iaload, 1) := by decide +kernel
theorem dX9_goesOnAsking_29 : decode cX9_goesOnAsking 29 = .ok (.if_icmp .ne 50, 3) := by decide +kernel
theorem dX9_goesOnAsking_32 : decode cX9_goesOnAsking 32 = .ok (.aload_n 0, 1) := by decide +kernel
theorem dX9_goesOnAsking_33 : decode cX9_goesOnAsking 33 = .ok (.getfield 31, 3) := by decide +kernel
theorem dX9_goesOnAsking_36 : decode cX9_goesOnAsking 36 = .ok (.iload_n 2, 1) := by decide +kernel
theorem dX9_goesOnAsking_37 : decode cX9_goesOnAsking 37 = .ok (.iconst 2, 1) := by decide +kernel
theorem dX9_goesOnAsking_38 : decode cX9_goesOnAsking 38 = .ok (.iastore, 1) := by decide +kernel
theorem dX9_goesOnAsking_39 : decode cX9_goesOnAsking 39 = .ok (.aload_n 0, 1) := by decide +kernel
theorem dX9_goesOnAsking_40 : decode cX9_goesOnAsking 40 = .ok (.getfield 34, 3) := by decide +kernel
theorem dX9_goesOnAsking_43 : decode cX9_goesOnAsking 43 = .ok (.iload_n 2, 1) := by decide +kernel
theorem dX9_goesOnAsking_44 : decode cX9_goesOnAsking 44 = .ok (.aload_n 0, 1) := by decide +kernel
theorem dX9_goesOnAsking_45 : decode cX9_goesOnAsking 45 = .ok (.getfield 46, 3) := by decide +kernel
theorem dX9_goesOnAsking_48 : decode cX9_goesOnAsking 48 = .ok (.iload_n 1, 1) := by decide +kernel
theorem dX9_goesOnAsking_49 : decode cX9_goesOnAsking 49 = .ok (.iaload, 1) := by decide +kernel
theorem dX9_goesOnAsking_50 : decode cX9_goesOnAsking 50 = .ok (.iastore, 1) := by decide +kernel
theorem dX9_goesOnAsking_51 : decode cX9_goesOnAsking 51 = .ok (.aload_n 0, 1) := by decide +kernel
theorem dX9_goesOnAsking_52 : decode cX9_goesOnAsking 52 = .ok (.dup, 1) := by decide +kernel
theorem dX9_goesOnAsking_53 : decode cX9_goesOnAsking 53 = .ok (.getfield 191, 3) := by decide +kernel
theorem dX9_goesOnAsking_56 : decode cX9_goesOnAsking 56 = .ok (.iconst 1, 1) := by decide +kernel
theorem dX9_goesOnAsking_57 : decode cX9_goesOnAsking 57 = .ok (.isub, 1) := by decide +kernel
theorem dX9_goesOnAsking_58 : decode cX9_goesOnAsking 58 = .ok (.putfield 191, 3) := by decide +kernel
theorem dX9_goesOnAsking_61 : decode cX9_goesOnAsking 61 = .ok (.aload_n 0, 1) := by decide +kernel
theorem dX9_goesOnAsking_62 : decode cX9_goesOnAsking 62 = .ok (.getfield 191, 3) := by decide +kernel
theorem dX9_goesOnAsking_65 : decode cX9_goesOnAsking 65 = .ok (.ifCond .le 13, 3) := by decide +kernel
theorem dX9_goesOnAsking_68 : decode cX9_goesOnAsking 68 = .ok (.aload_n 0, 1) := by decide +kernel
theorem dX9_goesOnAsking_69 : decode cX9_goesOnAsking 69 = .ok (.aload_n 0, 1) := by decide +kernel
theorem dX9_goesOnAsking_70 : decode cX9_goesOnAsking 70 = .ok (.getfield 34, 3) := by decide +kernel
theorem dX9_goesOnAsking_73 : decode cX9_goesOnAsking 73 = .ok (.iload_n 2, 1) := by decide +kernel
theorem dX9_goesOnAsking_74 : decode cX9_goesOnAsking 74 = .ok (.iaload, 1) := by decide +kernel
theorem dX9_goesOnAsking_75 : decode cX9_goesOnAsking 75 = .ok (.invokevirtual 201, 3) := by decide +kernel
theorem dX9_goesOnAsking_78 : decode cX9_goesOnAsking 78 = .ok (.return_, 1) := by decide +kernel
theorem dX9_goesOnAsking_79 : decode cX9_goesOnAsking 79 = .ok (.bipush 25, 2) := by decide +kernel
theorem dX9_goesOnAsking_81 : decode cX9_goesOnAsking 81 = .ok (.iload_n 2, 1) := by decide +kernel
theorem dX9_goesOnAsking_82 : decode cX9_goesOnAsking 82 = .ok (.imul, 1) := by decide +kernel
theorem dX9_goesOnAsking_83 : decode cX9_goesOnAsking 83 = .ok (.aload_n 0, 1) := by decide +kernel
theorem dX9_goesOnAsking_84 : decode cX9_goesOnAsking 84 = .ok (.getfield 40, 3) := by decide +kernel
theorem dX9_goesOnAsking_87 : decode cX9_goesOnAsking 87 = .ok (.iload_n 1, 1) := by decide +kernel
theorem dX9_goesOnAsking_88 : decode cX9_goesOnAsking 88 = .ok (.iaload, 1) := by decide +kernel
theorem dX9_goesOnAsking_89 : decode cX9_goesOnAsking 89 = .ok (.invokestatic 137, 3) := by decide +kernel
theorem dX9_goesOnAsking_92 : decode cX9_goesOnAsking 92 = .ok (.istore_n 3, 1) := by decide +kernel
theorem dX9_goesOnAsking_93 : decode cX9_goesOnAsking 93 = .ok (.aload_n 0, 1) := by decide +kernel
theorem dX9_goesOnAsking_94 : decode cX9_goesOnAsking 94 = .ok (.getfield 7, 3) := by decide +kernel
theorem dX9_goesOnAsking_97 : decode cX9_goesOnAsking 97 = .ok (.iload_n 3, 1) := by decide +kernel
theorem dX9_goesOnAsking_98 : decode cX9_goesOnAsking 98 = .ok (.iconst 0, 1) := by decide +kernel
theorem dX9_goesOnAsking_99 : decode cX9_goesOnAsking 99 = .ok (.iadd, 1) := by decide +kernel
theorem dX9_goesOnAsking_100 : decode cX9_goesOnAsking 100 = .ok (.iaload, 1) := by decide +kernel
theorem dX9_goesOnAsking_101 : decode cX9_goesOnAsking 101 = .ok (.tableswitch 98 0 2 #[27, 52, 89], 27) := by decide +kernel
theorem dX9_goesOnAsking_128 : decode cX9_goesOnAsking 128 = .ok (.aload_n 0, 1) := by decide +kernel
theorem dX9_goesOnAsking_129 : decode cX9_goesOnAsking 129 = .ok (.getfield 40, 3) := by decide +kernel
theorem dX9_goesOnAsking_132 : decode cX9_goesOnAsking 132 = .ok (.iload_n 1, 1) := by decide +kernel
theorem dX9_goesOnAsking_133 : decode cX9_goesOnAsking 133 = .ok (.dup2, 1) := by decide +kernel
theorem dX9_goesOnAsking_134 : decode cX9_goesOnAsking 134 = .ok (.iaload, 1) := by decide +kernel
theorem dX9_goesOnAsking_135 : decode cX9_goesOnAsking 135 = .ok (.iconst 1, 1) := by decide +kernel
theorem dX9_goesOnAsking_136 : decode cX9_goesOnAsking 136 = .ok (.iadd, 1) := by decide +kernel
theorem dX9_goesOnAsking_137 : decode cX9_goesOnAsking 137 = .ok (.iastore, 1) := by decide +kernel
theorem dX9_goesOnAsking_138 : decode cX9_goesOnAsking 138 = .ok (.aload_n 0, 1) := by decide +kernel
theorem dX9_goesOnAsking_139 : decode cX9_goesOnAsking 139 = .ok (.aload_n 0, 1) := by decide +kernel
theorem dX9_goesOnAsking_140 : decode cX9_goesOnAsking 140 = .ok (.getfield 7, 3) := by decide +kernel
theorem dX9_goesOnAsking_143 : decode cX9_goesOnAsking 143 = .ok (.iload_n 3, 1) := by decide +kernel
theorem dX9_goesOnAsking_144 : decode cX9_goesOnAsking 144 = .ok (.iconst 1, 1) := by decide +kernel
theorem dX9_goesOnAsking_145 : decode cX9_goesOnAsking 145 = .ok (.iadd, 1) := by decide +kernel
theorem dX9_goesOnAsking_146 : decode cX9_goesOnAsking 146 = .ok (.iaload, 1) := by decide +kernel
theorem dX9_goesOnAsking_147 : decode cX9_goesOnAsking 147 = .ok (.invokevirtual 201, 3) := by decide +kernel
theorem dX9_goesOnAsking_150 : decode cX9_goesOnAsking 150 = .ok (.goto 55, 3) := by decide +kernel
theorem dX9_goesOnAsking_153 : decode cX9_goesOnAsking 153 = .ok (.aload_n 0, 1) := by decide +kernel
theorem dX9_goesOnAsking_154 : decode cX9_goesOnAsking 154 = .ok (.getfield 40, 3) := by decide +kernel
theorem dX9_goesOnAsking_157 : decode cX9_goesOnAsking 157 = .ok (.iload_n 1, 1) := by decide +kernel
theorem dX9_goesOnAsking_158 : decode cX9_goesOnAsking 158 = .ok (.dup2, 1) := by decide +kernel
theorem dX9_goesOnAsking_159 : decode cX9_goesOnAsking 159 = .ok (.iaload, 1) := by decide +kernel
theorem dX9_goesOnAsking_160 : decode cX9_goesOnAsking 160 = .ok (.iconst 1, 1) := by decide +kernel
theorem dX9_goesOnAsking_161 : decode cX9_goesOnAsking 161 = .ok (.iadd, 1) := by decide +kernel
theorem dX9_goesOnAsking_162 : decode cX9_goesOnAsking 162 = .ok (.iastore, 1) := by decide +kernel
theorem dX9_goesOnAsking_163 : decode cX9_goesOnAsking 163 = .ok (.aload_n 0, 1) := by decide +kernel
theorem dX9_goesOnAsking_164 : decode cX9_goesOnAsking 164 = .ok (.bipush 6, 2) := by decide +kernel
theorem dX9_goesOnAsking_166 : decode cX9_goesOnAsking 166 = .ok (.aload_n 0, 1) := by decide +kernel
theorem dX9_goesOnAsking_167 : decode cX9_goesOnAsking 167 = .ok (.getfield 7, 3) := by decide +kernel
theorem dX9_goesOnAsking_170 : decode cX9_goesOnAsking 170 = .ok (.iload_n 3, 1) := by decide +kernel
theorem dX9_goesOnAsking_171 : decode cX9_goesOnAsking 171 = .ok (.iconst 2, 1) := by decide +kernel
theorem dX9_goesOnAsking_172 : decode cX9_goesOnAsking 172 = .ok (.iadd, 1) := by decide +kernel
theorem dX9_goesOnAsking_173 : decode cX9_goesOnAsking 173 = .ok (.iaload, 1) := by decide +kernel
theorem dX9_goesOnAsking_174 : decode cX9_goesOnAsking 174 = .ok (.imul, 1) := by decide +kernel
theorem dX9_goesOnAsking_175 : decode cX9_goesOnAsking 175 = .ok (.aload_n 0, 1) := by decide +kernel
theorem dX9_goesOnAsking_176 : decode cX9_goesOnAsking 176 = .ok (.getfield 7, 3) := by decide +kernel
theorem dX9_goesOnAsking_179 : decode cX9_goesOnAsking 179 = .ok (.iload_n 3, 1) := by decide +kernel
theorem dX9_goesOnAsking_180 : decode cX9_goesOnAsking 180 = .ok (.iconst 1, 1) := by decide +kernel
theorem dX9_goesOnAsking_181 : decode cX9_goesOnAsking 181 = .ok (.iadd, 1) := by decide +kernel
theorem dX9_goesOnAsking_182 : decode cX9_goesOnAsking 182 = .ok (.iaload, 1) := by decide +kernel
theorem dX9_goesOnAsking_183 : decode cX9_goesOnAsking 183 = .ok (.iadd, 1) := by decide +kernel
theorem dX9_goesOnAsking_184 : decode cX9_goesOnAsking 184 = .ok (.invokevirtual 204, 3) := by decide +kernel
theorem dX9_goesOnAsking_187 : decode cX9_goesOnAsking 187 = .ok (.goto 18, 3) := by decide +kernel
theorem dX9_goesOnAsking_190 : decode cX9_goesOnAsking 190 = .ok (.aload_n 0, 1) := by decide +kernel
theorem dX9_goesOnAsking_191 : decode cX9_goesOnAsking 191 = .ok (.iload_n 1, 1) := by decide +kernel
theorem dX9_goesOnAsking_192 : decode cX9_goesOnAsking 192 = .ok (.iload_n 3, 1) := by decide +kernel
theorem dX9_goesOnAsking_193 : decode cX9_goesOnAsking 193 = .ok (.invokevirtual 207, 3) := by decide +kernel
theorem dX9_goesOnAsking_196 : decode cX9_goesOnAsking 196 = .ok (.goto 9, 3) := by decide +kernel
theorem dX9_goesOnAsking_199 : decode cX9_goesOnAsking 199 = .ok (.aload_n 0, 1) := by decide +kernel
theorem dX9_goesOnAsking_200 : decode cX9_goesOnAsking 200 = .ok (.iconst 1, 1) := by decide +kernel
theorem dX9_goesOnAsking_201 : decode cX9_goesOnAsking 201 = .ok (.iload_n 2, 1) := by decide +kernel
theorem dX9_goesOnAsking_202 : decode cX9_goesOnAsking 202 = .ok (.invokevirtual 198, 3) := by decide +kernel
theorem dX9_goesOnAsking_205 : decode cX9_goesOnAsking 205 = .ok (.return_, 1) := by decide +kernel
theorem dX9_finds_0 : decode cX9_finds 0 = .ok (.iconst 0, 1) := by decide +kernel
theorem dX9_finds_1 : decode cX9_finds 1 = .ok (.istore_n 2, 1) := by decide +kernel
theorem dX9_finds_2 : decode cX9_finds 2 = .ok (.iload_n 2, 1) := by decide +kernel
theorem dX9_finds_3 : decode cX9_finds 3 = .ok (.bipush 36, 2) := by decide +kernel
theorem dX9_finds_5 : decode cX9_finds 5 = .ok (.if_icmp .ge 16, 3) := by decide +kernel
theorem dX9_finds_8 : decode cX9_finds 8 = .ok (.aload_n 0, 1) := by decide +kernel
theorem dX9_finds_9 : decode cX9_finds 9 = .ok (.getfield 31, 3) := by decide +kernel
theorem dX9_finds_12 : decode cX9_finds 12 = .ok (.iload_n 2, 1) := by decide +kernel
theorem dX9_finds_13 : decode cX9_finds 13 = .ok (.iconst 0, 1) := by decide +kernel
theorem dX9_finds_14 : decode cX9_finds 14 = .ok (.iastore, 1) := by decide +kernel
theorem dX9_finds_15 : decode cX9_finds 15 = .ok (.iinc 2 1, 3) := by decide +kernel
theorem dX9_finds_18 : decode cX9_finds 18 = .ok (.goto (-16), 3) := by decide +kernel
theorem dX9_finds_21 : decode cX9_finds 21 = .ok (.aload_n 0, 1) := by decide +kernel
theorem dX9_finds_22 : decode cX9_finds 22 = .ok (.iconst 0, 1) := by decide +kernel
theorem dX9_finds_23 : decode cX9_finds 23 = .ok (.putfield 191, 3) := by decide +kernel
theorem dX9_finds_26 : decode cX9_finds 26 = .ok (.aload_n 0, 1) := by decide +kernel
theorem dX9_finds_27 : decode cX9_finds 27 = .ok (.iconst 0, 1) := by decide +kernel
theorem dX9_finds_28 : decode cX9_finds 28 = .ok (.putfield 185, 3) := by decide +kernel
theorem dX9_finds_31 : decode cX9_finds 31 = .ok (.aload_n 0, 1) := by decide +kernel
theorem dX9_finds_32 : decode cX9_finds 32 = .ok (.iload_n 1, 1) := by decide +kernel
theorem dX9_finds_33 : decode cX9_finds 33 = .ok (.invokevirtual 204, 3) := by decide +kernel
theorem dX9_finds_36 : decode cX9_finds 36 = .ok (.aload_n 0, 1) := by decide +kernel
theorem dX9_finds_37 : decode cX9_finds 37 = .ok (.getfield 191, 3) := by decide +kernel
theorem dX9_finds_40 : decode cX9_finds 40 = .ok (.ifCond .le 17, 3) := by decide +kernel
theorem dX9_finds_43 : decode cX9_finds 43 = .ok (.aload_n 0, 1) := by decide +kernel
theorem dX9_finds_44 : decode cX9_finds 44 = .ok (.getfield 185, 3) := by decide +kernel
theorem dX9_finds_47 : decode cX9_finds 47 = .ok (.ifCond .ne 10, 3) := by decide +kernel
theorem dX9_finds_50 : decode cX9_finds 50 = .ok (.aload_n 0, 1) := by decide +kernel
theorem dX9_finds_51 : decode cX9_finds 51 = .ok (.invokevirtual 210, 3) := by decide +kernel
theorem dX9_finds_54 : decode cX9_finds 54 = .ok (.goto (-18), 3) := by decide +kernel
theorem dX9_finds_57 : decode cX9_finds 57 = .ok (.return_, 1) := by decide +kernel
theorem dX9_valueOf_0 : decode cX9_valueOf 0 = .ok (.aload_n 0, 1) := by decide +kernel
theorem dX9_valueOf_1 : decode cX9_valueOf 1 = .ok (.iload_n 1, 1) := by decide +kernel
theorem dX9_valueOf_2 : decode cX9_valueOf 2 = .ok (.invokevirtual 213, 3) := by decide +kernel
theorem dX9_valueOf_5 : decode cX9_valueOf 5 = .ok (.aload_n 0, 1) := by decide +kernel
theorem dX9_valueOf_6 : decode cX9_valueOf 6 = .ok (.getfield 185, 3) := by decide +kernel
theorem dX9_valueOf_9 : decode cX9_valueOf 9 = .ok (.ifCond .ne 12, 3) := by decide +kernel
theorem dX9_valueOf_12 : decode cX9_valueOf 12 = .ok (.aload_n 0, 1) := by decide +kernel
theorem dX9_valueOf_13 : decode cX9_valueOf 13 = .ok (.getfield 34, 3) := by decide +kernel
theorem dX9_valueOf_16 : decode cX9_valueOf 16 = .ok (.iload_n 1, 1) := by decide +kernel
theorem dX9_valueOf_17 : decode cX9_valueOf 17 = .ok (.iaload, 1) := by decide +kernel
theorem dX9_valueOf_18 : decode cX9_valueOf 18 = .ok (.goto 10, 3) := by decide +kernel
theorem dX9_valueOf_21 : decode cX9_valueOf 21 = .ok (.bipush (-10), 2) := by decide +kernel
theorem dX9_valueOf_23 : decode cX9_valueOf 23 = .ok (.aload_n 0, 1) := by decide +kernel
theorem dX9_valueOf_24 : decode cX9_valueOf 24 = .ok (.getfield 185, 3) := by decide +kernel
theorem dX9_valueOf_27 : decode cX9_valueOf 27 = .ok (.isub, 1) := by decide +kernel
theorem dX9_valueOf_28 : decode cX9_valueOf 28 = .ok (.ireturn, 1) := by decide +kernel
theorem dX9_whyOf_0 : decode cX9_whyOf 0 = .ok (.aload_n 0, 1) := by decide +kernel
theorem dX9_whyOf_1 : decode cX9_whyOf 1 = .ok (.iload_n 1, 1) := by decide +kernel
theorem dX9_whyOf_2 : decode cX9_whyOf 2 = .ok (.invokevirtual 213, 3) := by decide +kernel
theorem dX9_whyOf_5 : decode cX9_whyOf 5 = .ok (.aload_n 0, 1) := by decide +kernel
theorem dX9_whyOf_6 : decode cX9_whyOf 6 = .ok (.getfield 185, 3) := by decide +kernel
theorem dX9_whyOf_9 : decode cX9_whyOf 9 = .ok (.ifCond .ne 7, 3) := by decide +kernel
theorem dX9_whyOf_12 : decode cX9_whyOf 12 = .ok (.iconst (-1), 1) := by decide +kernel
theorem dX9_whyOf_13 : decode cX9_whyOf 13 = .ok (.goto 21, 3) := by decide +kernel
theorem dX9_whyOf_16 : decode cX9_whyOf 16 = .ok (.bipush 10, 2) := by decide +kernel
theorem dX9_whyOf_18 : decode cX9_whyOf 18 = .ok (.aload_n 0, 1) := by decide +kernel
theorem dX9_whyOf_19 : decode cX9_whyOf 19 = .ok (.getfield 188, 3) := by decide +kernel
theorem dX9_whyOf_22 : decode cX9_whyOf 22 = .ok (.bipush 6, 2) := by decide +kernel
theorem dX9_whyOf_24 : decode cX9_whyOf 24 = .ok (.irem, 1) := by decide +kernel
theorem dX9_whyOf_25 : decode cX9_whyOf 25 = .ok (.imul, 1) := by decide +kernel
theorem dX9_whyOf_26 : decode cX9_whyOf 26 = .ok (.aload_n 0, 1) := by decide +kernel
theorem dX9_whyOf_27 : decode cX9_whyOf 27 = .ok (.getfield 188, 3) := by decide +kernel
theorem dX9_whyOf_30 : decode cX9_whyOf 30 = .ok (.bipush 6, 2) := by decide +kernel
theorem dX9_whyOf_32 : decode cX9_whyOf 32 = .ok (.idiv, 1) := by decide +kernel
theorem dX9_whyOf_33 : decode cX9_whyOf 33 = .ok (.iadd, 1) := by decide +kernel
theorem dX9_whyOf_34 : decode cX9_whyOf 34 = .ok (.ireturn, 1) := by decide +kernel
theorem dX9_deepOf_0 : decode cX9_deepOf 0 = .ok (.aload_n 0, 1) := by decide +kernel
theorem dX9_deepOf_1 : decode cX9_deepOf 1 = .ok (.iload_n 1, 1) := by decide +kernel
theorem dX9_deepOf_2 : decode cX9_deepOf 2 = .ok (.invokevirtual 213, 3) := by decide +kernel
theorem dX9_deepOf_5 : decode cX9_deepOf 5 = .ok (.aload_n 0, 1) := by decide +kernel
theorem dX9_deepOf_6 : decode cX9_deepOf 6 = .ok (.getfield 185, 3) := by decide +kernel
theorem dX9_deepOf_9 : decode cX9_deepOf 9 = .ok (.ifCond .ne 7, 3) := by decide +kernel
theorem dX9_deepOf_12 : decode cX9_deepOf 12 = .ok (.iconst (-1), 1) := by decide +kernel
theorem dX9_deepOf_13 : decode cX9_deepOf 13 = .ok (.goto 7, 3) := by decide +kernel
theorem dX9_deepOf_16 : decode cX9_deepOf 16 = .ok (.aload_n 0, 1) := by decide +kernel
theorem dX9_deepOf_17 : decode cX9_deepOf 17 = .ok (.getfield 194, 3) := by decide +kernel
theorem dX9_deepOf_20 : decode cX9_deepOf 20 = .ok (.ireturn, 1) := by decide +kernel
theorem dX9_value_0 : decode cX9_value 0 = .ok (.iload_n 1, 1) := by decide +kernel
theorem dX9_value_1 : decode cX9_value 1 = .ok (.iload_n 2, 1) := by decide +kernel
theorem dX9_value_2 : decode cX9_value 2 = .ok (.invokestatic 99, 3) := by decide +kernel
theorem dX9_value_5 : decode cX9_value 5 = .ok (.ifCond .eq 16, 3) := by decide +kernel
theorem dX9_value_8 : decode cX9_value 8 = .ok (.aload_n 0, 1) := by decide +kernel
theorem dX9_value_9 : decode cX9_value 9 = .ok (.bipush 6, 2) := by decide +kernel
theorem dX9_value_11 : decode cX9_value 11 = .ok (.iload_n 2, 1) := by decide +kernel
theorem dX9_value_12 : decode cX9_value 12 = .ok (.imul, 1) := by decide +kernel
theorem dX9_value_13 : decode cX9_value 13 = .ok (.iload_n 1, 1) := by decide +kernel
theorem dX9_value_14 : decode cX9_value 14 = .ok (.iadd, 1) := by decide +kernel
theorem dX9_value_15 : decode cX9_value 15 = .ok (.invokevirtual 216, 3) := by decide +kernel
theorem dX9_value_18 : decode cX9_value 18 = .ok (.goto 7, 3) := by decide +kernel
theorem dX9_value_21 : decode cX9_value 21 = .ok (.aload_n 0, 1) := by decide +kernel
theorem dX9_value_22 : decode cX9_value 22 = .ok (.invokevirtual 95, 3) := by decide +kernel
theorem dX9_value_25 : decode cX9_value 25 = .ok (.ireturn, 1) := by decide +kernel
theorem dX9_why_0 : decode cX9_why 0 = .ok (.iload_n 1, 1) := by decide +kernel
theorem dX9_why_1 : decode cX9_why 1 = .ok (.iload_n 2, 1) := by decide +kernel
theorem dX9_why_2 : decode cX9_why 2 = .ok (.invokestatic 99, 3) := by decide +kernel
theorem dX9_why_5 : decode cX9_why 5 = .ok (.ifCond .eq 16, 3) := by decide +kernel
theorem dX9_why_8 : decode cX9_why 8 = .ok (.aload_n 0, 1) := by decide +kernel
theorem dX9_why_9 : decode cX9_why 9 = .ok (.bipush 6, 2) := by decide +kernel
theorem dX9_why_11 : decode cX9_why 11 = .ok (.iload_n 2, 1) := by decide +kernel
theorem dX9_why_12 : decode cX9_why 12 = .ok (.imul, 1) := by decide +kernel
theorem dX9_why_13 : decode cX9_why 13 = .ok (.iload_n 1, 1) := by decide +kernel
theorem dX9_why_14 : decode cX9_why 14 = .ok (.iadd, 1) := by decide +kernel
theorem dX9_why_15 : decode cX9_why 15 = .ok (.invokevirtual 219, 3) := by decide +kernel
theorem dX9_why_18 : decode cX9_why 18 = .ok (.goto 7, 3) := by decide +kernel
theorem dX9_why_21 : decode cX9_why 21 = .ok (.aload_n 0, 1) := by decide +kernel
theorem dX9_why_22 : decode cX9_why 22 = .ok (.invokevirtual 95, 3) := by decide +kernel
theorem dX9_why_25 : decode cX9_why 25 = .ok (.ireturn, 1) := by decide +kernel
theorem dX9_deep_0 : decode cX9_deep 0 = .ok (.iload_n 1, 1) := by decide +kernel
theorem dX9_deep_1 : decode cX9_deep 1 = .ok (.iload_n 2, 1) := by decide +kernel
theorem dX9_deep_2 : decode cX9_deep 2 = .ok (.invokestatic 99, 3) := by decide +kernel
theorem dX9_deep_5 : decode cX9_deep 5 = .ok (.ifCond .eq 16, 3) := by decide +kernel
theorem dX9_deep_8 : decode cX9_deep 8 = .ok (.aload_n 0, 1) := by decide +kernel
theorem dX9_deep_9 : decode cX9_deep 9 = .ok (.bipush 6, 2) := by decide +kernel
theorem dX9_deep_11 : decode cX9_deep 11 = .ok (.iload_n 2, 1) := by decide +kernel
theorem dX9_deep_12 : decode cX9_deep 12 = .ok (.imul, 1) := by decide +kernel
theorem dX9_deep_13 : decode cX9_deep 13 = .ok (.iload_n 1, 1) := by decide +kernel
theorem dX9_deep_14 : decode cX9_deep 14 = .ok (.iadd, 1) := by decide +kernel
theorem dX9_deep_15 : decode cX9_deep 15 = .ok (.invokevirtual 222, 3) := by decide +kernel
theorem dX9_deep_18 : decode cX9_deep 18 = .ok (.goto 7, 3) := by decide +kernel
theorem dX9_deep_21 : decode cX9_deep 21 = .ok (.aload_n 0, 1) := by decide +kernel
theorem dX9_deep_22 : decode cX9_deep 22 = .ok (.invokevirtual 95, 3) := by decide +kernel
theorem dX9_deep_25 : decode cX9_deep 25 = .ok (.ireturn, 1) := by decide +kernel
theorem dX9_refersTo_0 : decode cX9_refersTo 0 = .ok (.aload_n 0, 1) := by decide +kernel
theorem dX9_refersTo_1 : decode cX9_refersTo 1 = .ok (.getfield 7, 3) := by decide +kernel
theorem dX9_refersTo_4 : decode cX9_refersTo 4 = .ok (.iload_n 1, 1) := by decide +kernel
theorem dX9_refersTo_5 : decode cX9_refersTo 5 = .ok (.iconst 0, 1) := by decide +kernel
theorem dX9_refersTo_6 : decode cX9_refersTo 6 = .ok (.iadd, 1) := by decide +kernel
theorem dX9_refersTo_7 : decode cX9_refersTo 7 = .ok (.iaload, 1) := by decide +kernel
theorem dX9_refersTo_8 : decode cX9_refersTo 8 = .ok (.iconst 1, 1) := by decide +kernel
theorem dX9_refersTo_9 : decode cX9_refersTo 9 = .ok (.if_icmp .ne 33, 3) := by decide +kernel
theorem dX9_refersTo_12 : decode cX9_refersTo 12 = .ok (.aload_n 0, 1) := by decide +kernel
theorem dX9_refersTo_13 : decode cX9_refersTo 13 = .ok (.getfield 7, 3) := by decide +kernel
theorem dX9_refersTo_16 : decode cX9_refersTo 16 = .ok (.iload_n 1, 1) := by decide +kernel
theorem dX9_refersTo_17 : decode cX9_refersTo 17 = .ok (.iconst 1, 1) := by decide +kernel
theorem dX9_refersTo_18 : decode cX9_refersTo 18 = .ok (.iadd, 1) := by decide +kernel
theorem dX9_refersTo_19 : decode cX9_refersTo 19 = .ok (.iaload, 1) := by decide +kernel
theorem dX9_refersTo_20 : decode cX9_refersTo 20 = .ok (.iload_n 2, 1) := by decide +kernel
theorem dX9_refersTo_21 : decode cX9_refersTo 21 = .ok (.if_icmp .ne 19, 3) := by decide +kernel
theorem dX9_refersTo_24 : decode cX9_refersTo 24 = .ok (.aload_n 0, 1) := by decide +kernel
theorem dX9_refersTo_25 : decode cX9_refersTo 25 = .ok (.getfield 7, 3) := by decide +kernel
theorem dX9_refersTo_28 : decode cX9_refersTo 28 = .ok (.iload_n 1, 1) := by decide +kernel
theorem dX9_refersTo_29 : decode cX9_refersTo 29 = .ok (.iconst 2, 1) := by decide +kernel
theorem dX9_refersTo_30 : decode cX9_refersTo 30 = .ok (.iadd, 1) := by decide +kernel
theorem dX9_refersTo_31 : decode cX9_refersTo 31 = .ok (.iaload, 1) := by decide +kernel
theorem dX9_refersTo_32 : decode cX9_refersTo 32 = .ok (.iload_n 3, 1) := by decide +kernel
theorem dX9_refersTo_33 : decode cX9_refersTo 33 = .ok (.if_icmp .ne 7, 3) := by decide +kernel
theorem dX9_refersTo_36 : decode cX9_refersTo 36 = .ok (.iconst 1, 1) := by decide +kernel
theorem dX9_refersTo_37 : decode cX9_refersTo 37 = .ok (.goto 4, 3) := by decide +kernel
theorem dX9_refersTo_40 : decode cX9_refersTo 40 = .ok (.iconst 0, 1) := by decide +kernel
theorem dX9_refersTo_41 : decode cX9_refersTo 41 = .ok (.ireturn, 1) := by decide +kernel
theorem dX9_refersTo_42 : decode cX9_refersTo 42 = .ok (.aload_n 0, 1) := by decide +kernel
theorem dX9_refersTo_43 : decode cX9_refersTo 43 = .ok (.getfield 7, 3) := by decide +kernel
theorem dX9_refersTo_46 : decode cX9_refersTo 46 = .ok (.iload_n 1, 1) := by decide +kernel
theorem dX9_refersTo_47 : decode cX9_refersTo 47 = .ok (.iconst 0, 1) := by decide +kernel
theorem dX9_refersTo_48 : decode cX9_refersTo 48 = .ok (.iadd, 1) := by decide +kernel
theorem dX9_refersTo_49 : decode cX9_refersTo 49 = .ok (.iaload, 1) := by decide +kernel
theorem dX9_refersTo_50 : decode cX9_refersTo 50 = .ok (.iconst 2, 1) := by decide +kernel
theorem dX9_refersTo_51 : decode cX9_refersTo 51 = .ok (.if_icmp .ne 53, 3) := by decide +kernel
theorem dX9_refersTo_54 : decode cX9_refersTo 54 = .ok (.iload_n 2, 1) := by decide +kernel
theorem dX9_refersTo_55 : decode cX9_refersTo 55 = .ok (.aload_n 0, 1) := by decide +kernel
theorem dX9_refersTo_56 : decode cX9_refersTo 56 = .ok (.getfield 7, 3) := by decide +kernel
theorem dX9_refersTo_59 : decode cX9_refersTo 59 = .ok (.iload_n 1, 1) := by decide +kernel
theorem dX9_refersTo_60 : decode cX9_refersTo 60 = .ok (.iconst 1, 1) := by decide +kernel
theorem dX9_refersTo_61 : decode cX9_refersTo 61 = .ok (.iadd, 1) := by decide +kernel
theorem dX9_refersTo_62 : decode cX9_refersTo 62 = .ok (.iaload, 1) := by decide +kernel
theorem dX9_refersTo_63 : decode cX9_refersTo 63 = .ok (.aload_n 0, 1) := by decide +kernel
theorem dX9_refersTo_64 : decode cX9_refersTo 64 = .ok (.getfield 7, 3) := by decide +kernel
theorem dX9_refersTo_67 : decode cX9_refersTo 67 = .ok (.iload_n 1, 1) := by decide +kernel
theorem dX9_refersTo_68 : decode cX9_refersTo 68 = .ok (.iconst 3, 1) := by decide +kernel
theorem dX9_refersTo_69 : decode cX9_refersTo 69 = .ok (.iadd, 1) := by decide +kernel
theorem dX9_refersTo_70 : decode cX9_refersTo 70 = .ok (.iaload, 1) := by decide +kernel
theorem dX9_refersTo_71 : decode cX9_refersTo 71 = .ok (.invokestatic 53, 3) := by decide +kernel
theorem dX9_refersTo_74 : decode cX9_refersTo 74 = .ok (.ifCond .eq 30, 3) := by decide +kernel
theorem dX9_refersTo_77 : decode cX9_refersTo 77 = .ok (.iload_n 3, 1) := by decide +kernel
theorem dX9_refersTo_78 : decode cX9_refersTo 78 = .ok (.aload_n 0, 1) := by decide +kernel
theorem dX9_refersTo_79 : decode cX9_refersTo 79 = .ok (.getfield 7, 3) := by decide +kernel
theorem dX9_refersTo_82 : decode cX9_refersTo 82 = .ok (.iload_n 1, 1) := by decide +kernel
theorem dX9_refersTo_83 : decode cX9_refersTo 83 = .ok (.iconst 2, 1) := by decide +kernel
theorem dX9_refersTo_84 : decode cX9_refersTo 84 = .ok (.iadd, 1) := by decide +kernel
theorem dX9_refersTo_85 : decode cX9_refersTo 85 = .ok (.iaload, 1) := by decide +kernel
theorem dX9_refersTo_86 : decode cX9_refersTo 86 = .ok (.aload_n 0, 1) := by decide +kernel
theorem dX9_refersTo_87 : decode cX9_refersTo 87 = .ok (.getfield 7, 3) := by decide +kernel
theorem dX9_refersTo_90 : decode cX9_refersTo 90 = .ok (.iload_n 1, 1) := by decide +kernel
theorem dX9_refersTo_91 : decode cX9_refersTo 91 = .ok (.iconst 4, 1) := by decide +kernel
theorem dX9_refersTo_92 : decode cX9_refersTo 92 = .ok (.iadd, 1) := by decide +kernel
theorem dX9_refersTo_93 : decode cX9_refersTo 93 = .ok (.iaload, 1) := by decide +kernel
theorem dX9_refersTo_94 : decode cX9_refersTo 94 = .ok (.invokestatic 53, 3) := by decide +kernel
theorem dX9_refersTo_97 : decode cX9_refersTo 97 = .ok (.ifCond .eq 7, 3) := by decide +kernel
theorem dX9_refersTo_100 : decode cX9_refersTo 100 = .ok (.iconst 1, 1) := by decide +kernel
theorem dX9_refersTo_101 : decode cX9_refersTo 101 = .ok (.goto 4, 3) := by decide +kernel
theorem dX9_refersTo_104 : decode cX9_refersTo 104 = .ok (.iconst 0, 1) := by decide +kernel
theorem dX9_refersTo_105 : decode cX9_refersTo 105 = .ok (.ireturn, 1) := by decide +kernel
theorem dX9_users_0 : decode cX9_users 0 = .ok (.iload_n 1, 1) := by decide +kernel
theorem dX9_users_1 : decode cX9_users 1 = .ok (.iload_n 2, 1) := by decide +kernel
theorem dX9_users_2 : decode cX9_users 2 = .ok (.invokestatic 99, 3) := by decide +kernel
theorem dX9_users_5 : decode cX9_users 5 = .ok (.ifCond .ne 8, 3) := by decide +kernel
theorem dX9_users_8 : decode cX9_users 8 = .ok (.aload_n 0, 1) := by decide +kernel
theorem dX9_users_9 : decode cX9_users 9 = .ok (.invokevirtual 95, 3) := by decide +kernel
theorem dX9_users_12 : decode cX9_users 12 = .ok (.ireturn, 1) := by decide +kernel
theorem dX9_users_13 : decode cX9_users 13 = .ok (.iconst 0, 1) := by decide +kernel
theorem dX9_users_14 : decode cX9_users 14 = .ok (.istore_n 3, 1) := by decide +kernel
theorem dX9_users_15 : decode cX9_users 15 = .ok (.iconst 0, 1) := by decide +kernel
theorem dX9_users_16 : decode cX9_users 16 = .ok (.istore 4, 2) := by decide +kernel
theorem dX9_users_18 : decode cX9_users 18 = .ok (.iload 4, 2) := by decide +kernel
theorem dX9_users_20 : decode cX9_users 20 = .ok (.bipush 36, 2) := by decide +kernel
theorem dX9_users_22 : decode cX9_users 22 = .ok (.if_icmp .ge 60, 3) := by decide +kernel
theorem dX9_users_25 : decode cX9_users 25 = .ok (.iconst 0, 1) := by decide +kernel
theorem dX9_users_26 : decode cX9_users 26 = .ok (.istore 5, 2) := by decide +kernel
theorem dX9_users_28 : decode cX9_users 28 = .ok (.iload 5, 2) := by decide +kernel
theorem dX9_users_30 : decode cX9_users 30 = .ok (.aload_n 0, 1) := by decide +kernel
theorem dX9_users_31 : decode cX9_users 31 = .ok (.getfield 7, 3) := by decide +kernel
theorem dX9_users_34 : decode cX9_users 34 = .ok (.bipush 25, 2) := by decide +kernel
theorem dX9_users_36 : decode cX9_users 36 = .ok (.iload 4, 2) := by decide +kernel
theorem dX9_users_38 : decode cX9_users 38 = .ok (.imul, 1) := by decide +kernel
theorem dX9_users_39 : decode cX9_users 39 = .ok (.iaload, 1) := by decide +kernel
theorem dX9_users_40 : decode cX9_users 40 = .ok (.if_icmp .ge 36, 3) := by decide +kernel
theorem dX9_users_43 : decode cX9_users 43 = .ok (.iload_n 3, 1) := by decide +kernel
theorem dX9_users_44 : decode cX9_users 44 = .ok (.aload_n 0, 1) := by decide +kernel
theorem dX9_users_45 : decode cX9_users 45 = .ok (.bipush 25, 2) := by decide +kernel
theorem dX9_users_47 : decode cX9_users 47 = .ok (.iload 4, 2) := by decide +kernel
theorem dX9_users_49 : decode cX9_users 49 = .ok (.imul, 1) := by decide +kernel
theorem dX9_users_50 : decode cX9_users 50 = .ok (.iload 5, 2) := by decide +kernel
theorem dX9_users_52 : decode cX9_users 52 = .ok (.invokestatic 137, 3) := by decide +kernel
theorem dX9_users_55 : decode cX9_users 55 = .ok (.iload_n 1, 1) := by decide +kernel
theorem dX9_users_56 : decode cX9_users 56 = .ok (.iload_n 2, 1) := by decide +kernel
theorem dX9_users_57 : decode cX9_users 57 = .ok (.invokevirtual 225, 3) := by decide +kernel
theorem dX9_users_60 : decode cX9_users 60 = .ok (.ifCond .eq 7, 3) := by decide +kernel
theorem dX9_users_63 : decode cX9_users 63 = .ok (.iconst 1, 1) := by decide +kernel
theorem dX9_users_64 : decode cX9_users 64 = .ok (.goto 4, 3) := by decide +kernel
theorem dX9_users_67 : decode cX9_users 67 = .ok (.iconst 0, 1) := by decide +kernel
theorem dX9_users_68 : decode cX9_users 68 = .ok (.iadd, 1) := by decide +kernel
theorem dX9_users_69 : decode cX9_users 69 = .ok (.istore_n 3, 1) := by decide +kernel
theorem dX9_users_70 : decode cX9_users 70 = .ok (.iinc 5 1, 3) := by decide +kernel
theorem dX9_users_73 : decode cX9_users 73 = .ok (.goto (-45), 3) := by decide +kernel
theorem dX9_users_76 : decode cX9_users 76 = .ok (.iinc 4 1, 3) := by decide +kernel
theorem dX9_users_79 : decode cX9_users 79 = .ok (.goto (-61), 3) := by decide +kernel
theorem dX9_users_82 : decode cX9_users 82 = .ok (.iload_n 3, 1) := by decide +kernel
theorem dX9_users_83 : decode cX9_users 83 = .ok (.ireturn, 1) := by decide +kernel
theorem dX9_countOf_0 : decode cX9_countOf 0 = .ok (.iload_n 1, 1) := by decide +kernel
theorem dX9_countOf_1 : decode cX9_countOf 1 = .ok (.ifCond .ne 8, 3) := by decide +kernel
theorem dX9_countOf_4 : decode cX9_countOf 4 = .ok (.aload_n 0, 1) := by decide +kernel
theorem dX9_countOf_5 : decode cX9_countOf 5 = .ok (.invokevirtual 153, 3) := by decide +kernel
theorem dX9_countOf_8 : decode cX9_countOf 8 = .ok (.ireturn, 1) := by decide +kernel
theorem dX9_countOf_9 : decode cX9_countOf 9 = .ok (.iconst 0, 1) := by decide +kernel
theorem dX9_countOf_10 : decode cX9_countOf 10 = .ok (.istore_n 2, 1) := by decide +kernel
theorem dX9_countOf_11 : decode cX9_countOf 11 = .ok (.iconst 0, 1) := by decide +kernel
theorem dX9_countOf_12 : decode cX9_countOf 12 = .ok (.istore_n 3, 1) := by decide +kernel
theorem dX9_countOf_13 : decode cX9_countOf 13 = .ok (.iload_n 3, 1) := by decide +kernel
theorem dX9_countOf_14 : decode cX9_countOf 14 = .ok (.bipush 36, 2) := by decide +kernel
theorem dX9_countOf_16 : decode cX9_countOf 16 = .ok (.if_icmp .ge 91, 3) := by decide +kernel
theorem dX9_countOf_19 : decode cX9_countOf 19 = .ok (.iload_n 1, 1) := by decide +kernel
theorem dX9_countOf_20 : decode cX9_countOf 20 = .ok (.iconst 3, 1) := by decide +kernel
theorem dX9_countOf_21 : decode cX9_countOf 21 = .ok (.if_icmp .ne 19, 3) := by decide +kernel
theorem dX9_countOf_24 : decode cX9_countOf 24 = .ok (.iload_n 2, 1) := by decide +kernel
theorem dX9_countOf_25 : decode cX9_countOf 25 = .ok (.aload_n 0, 1) := by decide +kernel
theorem dX9_countOf_26 : decode cX9_countOf 26 = .ok (.iload_n 3, 1) := by decide +kernel
theorem dX9_countOf_27 : decode cX9_countOf 27 = .ok (.invokevirtual 216, 3) := by decide +kernel
theorem dX9_countOf_30 : decode cX9_countOf 30 = .ok (.ifCond .ge 7, 3) := by decide +kernel
theorem dX9_countOf_33 : decode cX9_countOf 33 = .ok (.iconst 1, 1) := by decide +kernel
theorem dX9_countOf_34 : decode cX9_countOf 34 = .ok (.goto 4, 3) := by decide +kernel
theorem dX9_countOf_37 : decode cX9_countOf 37 = .ok (.iconst 0, 1) := by decide +kernel
theorem dX9_countOf_38 : decode cX9_countOf 38 = .ok (.iadd, 1) := by decide +kernel
theorem dX9_countOf_39 : decode cX9_countOf 39 = .ok (.istore_n 2, 1) := by decide +kernel
theorem dX9_countOf_40 : decode cX9_countOf 40 = .ok (.iconst 0, 1) := by decide +kernel
theorem dX9_countOf_41 : decode cX9_countOf 41 = .ok (.istore 4, 2) := by decide +kernel
theorem dX9_countOf_43 : decode cX9_countOf 43 = .ok (.iload 4, 2) := by decide +kernel
theorem dX9_countOf_45 : decode cX9_countOf 45 = .ok (.aload_n 0, 1) := by decide +kernel
theorem dX9_countOf_46 : decode cX9_countOf 46 = .ok (.getfield 7, 3) := by decide +kernel
theorem dX9_countOf_49 : decode cX9_countOf 49 = .ok (.bipush 25, 2) := by decide +kernel
theorem dX9_countOf_51 : decode cX9_countOf 51 = .ok (.iload_n 3, 1) := by decide +kernel
theorem dX9_countOf_52 : decode cX9_countOf 52 = .ok (.imul, 1) := by decide +kernel
theorem dX9_countOf_53 : decode cX9_countOf 53 = .ok (.iaload, 1) := by decide +kernel
theorem dX9_countOf_54 : decode cX9_countOf 54 = .ok (.if_icmp .ge 47, 3) := by decide +kernel
theorem dX9_countOf_57 : decode cX9_countOf 57 = .ok (.iload_n 1, 1) := by decide +kernel
theorem dX9_countOf_58 : decode cX9_countOf 58 = .ok (.iconst 3, 1) := by decide +kernel
theorem dX9_countOf_59 : decode cX9_countOf 59 = .ok (.if_icmp .ge 42, 3) := by decide +kernel
theorem dX9_countOf_62 : decode cX9_countOf 62 = .ok (.iload_n 2, 1) := by decide +kernel
theorem dX9_countOf_63 : decode cX9_countOf 63 = .ok (.iload_n 1, 1) := by decide +kernel
theorem dX9_countOf_64 : decode cX9_countOf 64 = .ok (.iconst 1, 1) := by decide +kernel
theorem dX9_countOf_65 : decode cX9_countOf 65 = .ok (.if_icmp .eq 23, 3) := by decide +kernel
theorem dX9_countOf_68 : decode cX9_countOf 68 = .ok (.aload_n 0, 1) := by decide +kernel
theorem dX9_countOf_69 : decode cX9_countOf 69 = .ok (.getfield 7, 3) := by decide +kernel
theorem dX9_countOf_72 : decode cX9_countOf 72 = .ok (.bipush 25, 2) := by decide +kernel
theorem dX9_countOf_74 : decode cX9_countOf 74 = .ok (.iload_n 3, 1) := by decide +kernel
theorem dX9_countOf_75 : decode cX9_countOf 75 = .ok (.imul, 1) := by decide +kernel
theorem dX9_countOf_76 : decode cX9_countOf 76 = .ok (.iload 4, 2) := by decide +kernel
theorem dX9_countOf_78 : decode cX9_countOf 78 = .ok (.invokestatic 137, 3) := by decide +kernel
theorem dX9_countOf_81 : decode cX9_countOf 81 = .ok (.iconst 0, 1) := by decide +kernel
theorem dX9_countOf_82 : decode cX9_countOf 82 = .ok (.iadd, 1) := by decide +kernel
theorem dX9_countOf_83 : decode cX9_countOf 83 = .ok (.iaload, 1) := by decide +kernel
theorem dX9_countOf_84 : decode cX9_countOf 84 = .ok (.iconst 3, 1) := by decide +kernel
theorem dX9_countOf_85 : decode cX9_countOf 85 = .ok (.if_icmp .ne 7, 3) := by decide +kernel
theorem dX9_countOf_88 : decode cX9_countOf 88 = .ok (.iconst 1, 1) := by decide +kernel
theorem dX9_countOf_89 : decode cX9_countOf 89 = .ok (.goto 4, 3) := by decide +kernel
theorem dX9_countOf_92 : decode cX9_countOf 92 = .ok (.iconst 0, 1) := by decide +kernel
theorem dX9_countOf_93 : decode cX9_countOf 93 = .ok (.iadd, 1) := by decide +kernel
theorem dX9_countOf_94 : decode cX9_countOf 94 = .ok (.istore_n 2, 1) := by decide +kernel
theorem dX9_countOf_95 : decode cX9_countOf 95 = .ok (.iinc 4 1, 3) := by decide +kernel
theorem dX9_countOf_98 : decode cX9_countOf 98 = .ok (.goto (-55), 3) := by decide +kernel
theorem dX9_countOf_101 : decode cX9_countOf 101 = .ok (.iinc 3 1, 3) := by decide +kernel
theorem dX9_countOf_104 : decode cX9_countOf 104 = .ok (.goto (-91), 3) := by decide +kernel
theorem dX9_countOf_107 : decode cX9_countOf 107 = .ok (.iload_n 2, 1) := by decide +kernel
theorem dX9_countOf_108 : decode cX9_countOf 108 = .ok (.ireturn, 1) := by decide +kernel
theorem dX9_count_0 : decode cX9_count 0 = .ok (.iload_n 1, 1) := by decide +kernel
theorem dX9_count_1 : decode cX9_count 1 = .ok (.iconst 0, 1) := by decide +kernel
theorem dX9_count_2 : decode cX9_count 2 = .ok (.iconst 3, 1) := by decide +kernel
theorem dX9_count_3 : decode cX9_count 3 = .ok (.invokestatic 53, 3) := by decide +kernel
theorem dX9_count_6 : decode cX9_count 6 = .ok (.ifCond .eq 11, 3) := by decide +kernel
theorem dX9_count_9 : decode cX9_count 9 = .ok (.aload_n 0, 1) := by decide +kernel
theorem dX9_count_10 : decode cX9_count 10 = .ok (.iload_n 1, 1) := by decide +kernel
theorem dX9_count_11 : decode cX9_count 11 = .ok (.invokevirtual 228, 3) := by decide +kernel
theorem dX9_count_14 : decode cX9_count 14 = .ok (.goto 7, 3) := by decide +kernel
theorem dX9_count_17 : decode cX9_count 17 = .ok (.aload_n 0, 1) := by decide +kernel
theorem dX9_count_18 : decode cX9_count 18 = .ok (.invokevirtual 95, 3) := by decide +kernel
theorem dX9_count_21 : decode cX9_count 21 = .ok (.ireturn, 1) := by decide +kernel
theorem dX9_toldOf_0 : decode cX9_toldOf 0 = .ok (.iload_n 1, 1) := by decide +kernel
theorem dX9_toldOf_1 : decode cX9_toldOf 1 = .ok (.iconst 3, 1) := by decide +kernel
theorem dX9_toldOf_2 : decode cX9_toldOf 2 = .ok (.if_icmp .ge 12, 3) := by decide +kernel
theorem dX9_toldOf_5 : decode cX9_toldOf 5 = .ok (.aload_n 0, 1) := by decide +kernel
theorem dX9_toldOf_6 : decode cX9_toldOf 6 = .ok (.getfield 19, 3) := by decide +kernel
theorem dX9_toldOf_9 : decode cX9_toldOf 9 = .ok (.iload_n 1, 1) := by decide +kernel
theorem dX9_toldOf_10 : decode cX9_toldOf 10 = .ok (.iaload, 1) := by decide +kernel
theorem dX9_toldOf_11 : decode cX9_toldOf 11 = .ok (.goto 19, 3) := by decide +kernel
theorem dX9_toldOf_14 : decode cX9_toldOf 14 = .ok (.iload_n 1, 1) := by decide +kernel
theorem dX9_toldOf_15 : decode cX9_toldOf 15 = .ok (.iconst 3, 1) := by decide +kernel
theorem dX9_toldOf_16 : decode cX9_toldOf 16 = .ok (.if_icmp .ne 10, 3) := by decide +kernel
theorem dX9_toldOf_19 : decode cX9_toldOf 19 = .ok (.aload_n 0, 1) := by decide +kernel
theorem dX9_toldOf_20 : decode cX9_toldOf 20 = .ok (.getfield 60, 3) := by decide +kernel
theorem dX9_toldOf_23 : decode cX9_toldOf 23 = .ok (.goto 7, 3) := by decide +kernel
theorem dX9_toldOf_26 : decode cX9_toldOf 26 = .ok (.aload_n 0, 1) := by decide +kernel
theorem dX9_toldOf_27 : decode cX9_toldOf 27 = .ok (.getfield 49, 3) := by decide +kernel
theorem dX9_toldOf_30 : decode cX9_toldOf 30 = .ok (.ireturn, 1) := by decide +kernel
theorem dX9_told_0 : decode cX9_told 0 = .ok (.iload_n 1, 1) := by decide +kernel
theorem dX9_told_1 : decode cX9_told 1 = .ok (.iconst 0, 1) := by decide +kernel
theorem dX9_told_2 : decode cX9_told 2 = .ok (.iconst 4, 1) := by decide +kernel
theorem dX9_told_3 : decode cX9_told 3 = .ok (.invokestatic 53, 3) := by decide +kernel
theorem dX9_told_6 : decode cX9_told 6 = .ok (.ifCond .eq 11, 3) := by decide +kernel
theorem dX9_told_9 : decode cX9_told 9 = .ok (.aload_n 0, 1) := by decide +kernel
theorem dX9_told_10 : decode cX9_told 10 = .ok (.iload_n 1, 1) := by decide +kernel
theorem dX9_told_11 : decode cX9_told 11 = .ok (.invokevirtual 231, 3) := by decide +kernel
theorem dX9_told_14 : decode cX9_told 14 = .ok (.goto 7, 3) := by decide +kernel
theorem dX9_told_17 : decode cX9_told 17 = .ok (.aload_n 0, 1) := by decide +kernel
theorem dX9_told_18 : decode cX9_told 18 = .ok (.invokevirtual 95, 3) := by decide +kernel
theorem dX9_told_21 : decode cX9_told 21 = .ok (.ireturn, 1) := by decide +kernel
theorem dX9_mix_0 : decode cX9_mix 0 = .ok (.aload_n 0, 1) := by decide +kernel
theorem dX9_mix_1 : decode cX9_mix 1 = .ok (.ldc2_w 234, 3) := by decide +kernel
theorem dX9_mix_4 : decode cX9_mix 4 = .ok (.aload_n 0, 1) := by decide +kernel
theorem dX9_mix_5 : decode cX9_mix 5 = .ok (.getfield 236, 3) := by decide +kernel
theorem dX9_mix_8 : decode cX9_mix 8 = .ok (.lmul, 1) := by decide +kernel
theorem dX9_mix_9 : decode cX9_mix 9 = .ok (.lload_n 1, 1) := by decide +kernel
theorem dX9_mix_10 : decode cX9_mix 10 = .ok (.ladd, 1) := by decide +kernel
theorem dX9_mix_11 : decode cX9_mix 11 = .ok (.putfield 236, 3) := by decide +kernel
theorem dX9_mix_14 : decode cX9_mix 14 = .ok (.return_, 1) := by decide +kernel
theorem dX9_digest_0 : decode cX9_digest 0 = .ok (.aload_n 0, 1) := by decide +kernel
theorem dX9_digest_1 : decode cX9_digest 1 = .ok (.ldc2_w 240, 3) := by decide +kernel
theorem dX9_digest_4 : decode cX9_digest 4 = .ok (.putfield 236, 3) := by decide +kernel
theorem dX9_digest_7 : decode cX9_digest 7 = .ok (.iconst 0, 1) := by decide +kernel
theorem dX9_digest_8 : decode cX9_digest 8 = .ok (.istore_n 1, 1) := by decide +kernel
theorem dX9_digest_9 : decode cX9_digest 9 = .ok (.iload_n 1, 1) := by decide +kernel
theorem dX9_digest_10 : decode cX9_digest 10 = .ok (.iconst 5, 1) := by decide +kernel
theorem dX9_digest_11 : decode cX9_digest 11 = .ok (.if_icmp .ge 19, 3) := by decide +kernel
theorem dX9_digest_14 : decode cX9_digest 14 = .ok (.aload_n 0, 1) := by decide +kernel
theorem dX9_digest_15 : decode cX9_digest 15 = .ok (.aload_n 0, 1) := by decide +kernel
theorem dX9_digest_16 : decode cX9_digest 16 = .ok (.iload_n 1, 1) := by decide +kernel
theorem dX9_digest_17 : decode cX9_digest 17 = .ok (.invokevirtual 231, 3) := by decide +kernel
theorem dX9_digest_20 : decode cX9_digest 20 = .ok (.i2l, 1) := by decide +kernel
theorem dX9_digest_21 : decode cX9_digest 21 = .ok (.invokevirtual 242, 3) := by decide +kernel
theorem dX9_digest_24 : decode cX9_digest 24 = .ok (.iinc 1 1, 3) := by decide +kernel
theorem dX9_digest_27 : decode cX9_digest 27 = .ok (.goto (-18), 3) := by decide +kernel
theorem dX9_digest_30 : decode cX9_digest 30 = .ok (.iconst 0, 1) := by decide +kernel
theorem dX9_digest_31 : decode cX9_digest 31 = .ok (.istore_n 1, 1) := by decide +kernel
theorem dX9_digest_32 : decode cX9_digest 32 = .ok (.iload_n 1, 1) := by decide +kernel
theorem dX9_digest_33 : decode cX9_digest 33 = .ok (.iconst 4, 1) := by decide +kernel
theorem dX9_digest_34 : decode cX9_digest 34 = .ok (.if_icmp .ge 19, 3) := by decide +kernel
theorem dX9_digest_37 : decode cX9_digest 37 = .ok (.aload_n 0, 1) := by decide +kernel
theorem dX9_digest_38 : decode cX9_digest 38 = .ok (.aload_n 0, 1) := by decide +kernel
theorem dX9_digest_39 : decode cX9_digest 39 = .ok (.iload_n 1, 1) := by decide +kernel
theorem dX9_digest_40 : decode cX9_digest 40 = .ok (.invokevirtual 228, 3) := by decide +kernel
theorem dX9_digest_43 : decode cX9_digest 43 = .ok (.i2l, 1) := by decide +kernel
theorem dX9_digest_44 : decode cX9_digest 44 = .ok (.invokevirtual 242, 3) := by decide +kernel
theorem dX9_digest_47 : decode cX9_digest 47 = .ok (.iinc 1 1, 3) := by decide +kernel
theorem dX9_digest_50 : decode cX9_digest 50 = .ok (.goto (-18), 3) := by decide +kernel
theorem dX9_digest_53 : decode cX9_digest 53 = .ok (.iconst 0, 1) := by decide +kernel
theorem dX9_digest_54 : decode cX9_digest 54 = .ok (.istore_n 1, 1) := by decide +kernel
theorem dX9_digest_55 : decode cX9_digest 55 = .ok (.iload_n 1, 1) := by decide +kernel
theorem dX9_digest_56 : decode cX9_digest 56 = .ok (.bipush 36, 2) := by decide +kernel
theorem dX9_digest_58 : decode cX9_digest 58 = .ok (.if_icmp .ge 81, 3) := by decide +kernel
theorem dX9_digest_61 : decode cX9_digest 61 = .ok (.bipush 25, 2) := by decide +kernel
theorem dX9_digest_63 : decode cX9_digest 63 = .ok (.iload_n 1, 1) := by decide +kernel
theorem dX9_digest_64 : decode cX9_digest 64 = .ok (.imul, 1) := by decide +kernel
theorem dX9_digest_65 : decode cX9_digest 65 = .ok (.istore_n 2, 1) := by decide +kernel
theorem dX9_digest_66 : decode cX9_digest 66 = .ok (.aload_n 0, 1) := by decide +kernel
theorem dX9_digest_67 : decode cX9_digest 67 = .ok (.aload_n 0, 1) := by decide +kernel
theorem dX9_digest_68 : decode cX9_digest 68 = .ok (.getfield 7, 3) := by decide +kernel
theorem dX9_digest_71 : decode cX9_digest 71 = .ok (.iload_n 2, 1) := by decide +kernel
theorem dX9_digest_72 : decode cX9_digest 72 = .ok (.iaload, 1) := by decide +kernel
theorem dX9_digest_73 : decode cX9_digest 73 = .ok (.i2l, 1) := by decide +kernel
theorem dX9_digest_74 : decode cX9_digest 74 = .ok (.invokevirtual 242, 3) := by decide +kernel
theorem dX9_digest_77 : decode cX9_digest 77 = .ok (.iconst 0, 1) := by decide +kernel
theorem dX9_digest_78 : decode cX9_digest 78 = .ok (.istore_n 3, 1) := by decide +kernel
theorem dX9_digest_79 : decode cX9_digest 79 = .ok (.iload_n 3, 1) := by decide +kernel
theorem dX9_digest_80 : decode cX9_digest 80 = .ok (.bipush 6, 2) := by decide +kernel
theorem dX9_digest_82 : decode cX9_digest 82 = .ok (.aload_n 0, 1) := by decide +kernel
theorem dX9_digest_83 : decode cX9_digest 83 = .ok (.getfield 7, 3) := by decide +kernel
theorem dX9_digest_86 : decode cX9_digest 86 = .ok (.iload_n 2, 1) := by decide +kernel
theorem dX9_digest_87 : decode cX9_digest 87 = .ok (.iaload, 1) := by decide +kernel
theorem dX9_digest_88 : decode cX9_digest 88 = .ok (.imul, 1) := by decide +kernel
theorem dX9_digest_89 : decode cX9_digest 89 = .ok (.if_icmp .ge 24, 3) := by decide +kernel
theorem dX9_digest_92 : decode cX9_digest 92 = .ok (.aload_n 0, 1) := by decide +kernel
theorem dX9_digest_93 : decode cX9_digest 93 = .ok (.aload_n 0, 1) := by decide +kernel
theorem dX9_digest_94 : decode cX9_digest 94 = .ok (.getfield 7, 3) := by decide +kernel
theorem dX9_digest_97 : decode cX9_digest 97 = .ok (.iload_n 2, 1) := by decide +kernel
theorem dX9_digest_98 : decode cX9_digest 98 = .ok (.iconst 1, 1) := by decide +kernel
theorem dX9_digest_99 : decode cX9_digest 99 = .ok (.iadd, 1) := by decide +kernel
theorem dX9_digest_100 : decode cX9_digest 100 = .ok (.iload_n 3, 1) := by decide +kernel
theorem dX9_digest_101 : decode cX9_digest 101 = .ok (.iadd, 1) := by decide +kernel
theorem dX9_digest_102 : decode cX9_digest 102 = .ok (.iaload, 1) := by decide +kernel
theorem dX9_digest_103 : decode cX9_digest 103 = .ok (.i2l, 1) := by decide +kernel
theorem dX9_digest_104 : decode cX9_digest 104 = .ok (.invokevirtual 242, 3) := by decide +kernel
theorem dX9_digest_107 : decode cX9_digest 107 = .ok (.iinc 3 1, 3) := by decide +kernel
theorem dX9_digest_110 : decode cX9_digest 110 = .ok (.goto (-31), 3) := by decide +kernel
theorem dX9_digest_113 : decode cX9_digest 113 = .ok (.aload_n 0, 1) := by decide +kernel
theorem dX9_digest_114 : decode cX9_digest 114 = .ok (.aload_n 0, 1) := by decide +kernel
theorem dX9_digest_115 : decode cX9_digest 115 = .ok (.iload_n 1, 1) := by decide +kernel
theorem dX9_digest_116 : decode cX9_digest 116 = .ok (.invokevirtual 216, 3) := by decide +kernel
theorem dX9_digest_119 : decode cX9_digest 119 = .ok (.i2l, 1) := by decide +kernel
theorem dX9_digest_120 : decode cX9_digest 120 = .ok (.invokevirtual 242, 3) := by decide +kernel
theorem dX9_digest_123 : decode cX9_digest 123 = .ok (.aload_n 0, 1) := by decide +kernel
theorem dX9_digest_124 : decode cX9_digest 124 = .ok (.aload_n 0, 1) := by decide +kernel
theorem dX9_digest_125 : decode cX9_digest 125 = .ok (.iload_n 1, 1) := by decide +kernel
theorem dX9_digest_126 : decode cX9_digest 126 = .ok (.invokevirtual 219, 3) := by decide +kernel
theorem dX9_digest_129 : decode cX9_digest 129 = .ok (.i2l, 1) := by decide +kernel
theorem dX9_digest_130 : decode cX9_digest 130 = .ok (.invokevirtual 242, 3) := by decide +kernel
theorem dX9_digest_133 : decode cX9_digest 133 = .ok (.iinc 1 1, 3) := by decide +kernel
theorem dX9_digest_136 : decode cX9_digest 136 = .ok (.goto (-81), 3) := by decide +kernel
theorem dX9_digest_139 : decode cX9_digest 139 = .ok (.aload_n 0, 1) := by decide +kernel
theorem dX9_digest_140 : decode cX9_digest 140 = .ok (.getfield 236, 3) := by decide +kernel
theorem dX9_digest_143 : decode cX9_digest 143 = .ok (.lreturn, 1) := by decide +kernel
end
section
/-! MY LAYER over the kit: one world for all methods, contracts that say exactly what is answered and what the world is then. -/
abbrev ST : Type := (Nat → Int32) × (Nat → Nat → Int32) × Int64
abbrev GM : Type := va_G × (Nat → Prop) × ClassId × ClassId
def WS (y : MethodName) (b : ByteArray) (n : Nat) (r : Option FieldType) : List Cond := Cond.code y b n r :: goodT
def RM (k : Nat) : Room := { frames := k, cells := 0, slots := 0, locals := 64 * k }
def Nst (U : State) : Prop := ∀ w ∈ nestT, va_Nw w U
def TY (G : GM) : List (ClassId × FieldType) := [(G.2.2.1, .int), (G.2.2.2, .boolean)]
def Ok (G : GM) (w : va_W) (U : State) : Prop := va_P G.1 vwCl w U.heap ∧ va_K G.1 vwCl (TY G) U ∧ va_D G.2.1 w ∧ (∀ q : Nat, U.heap.size ≤ q → G.2.1 q) ∧ Nst U
def FX (p : Program) (s : State) (m : MethodId) (args : Array Value) (c : Code) (cc : ByteArray) (nL : Nat) (own : String) (G : GM) : Prop :=
  p.tables.exec = Jvm.exec ∧ c.code = cc ∧ c.maxLocals = nL ∧ s.vm.findClass own = some m.cls ∧ (∀ w ∈ goodT, w.before args s = true) ∧ va_K G.1 vwCl (TY G) s ∧ Nst s ∧ (∀ q : Nat, s.heap.size ≤ q → G.2.1 q)
def Now (G : GM) (s : State) (w : va_W) (H : Heap) (locs : List Loc) : Prop := va_P G.1 vwCl w H ∧ va_D G.2.1 w ∧ va_S G.2.1 s.heap H locs
theorem nst_warm {s U : State} (hW : s.WarmedH U.vm) (h : Nst s) : Nst U := by
  intro w hw
  have h0 := h w hw
  have h1 : isNestW w = true := (List.mem_filter.mp hw).2
  cases w <;> first | exact va_Nw.warmM hW h0 | (simp [isNestW] at h1)
theorem nst_same {u U : State} (hv : u.vm = U.vm) (h : Nst u) : Nst U := by
  intro w hw
  have h0 := h w hw
  have h1 : isNestW w = true := (List.mem_filter.mp hw).2
  cases w <;> first | exact va_Nw.same rfl hv h0 | (simp [isNestW] at h1)
/-- the contract of a method that answers an int (or boolean): it answers ri, the world is w1 then -/
def XCi (l : Launch) (G : GM) (y : MethodName) (b : ByteArray) (n : Nat) (r : Option FieldType) (k : Nat) (av : List Value) (w0 : va_W) (ri : Int32) (w1 : va_W) : Prop :=
  Met l y (WS y b n r) (RM k) (va_Pc av (Ok G w0)) (va_Qi (fun (x : Int32) (_ : Unit) => x = ri) (fun _ => Ok G w1) G.2.1) 0 0 G.2.1
def XCl (l : Launch) (G : GM) (y : MethodName) (b : ByteArray) (n : Nat) (r : Option FieldType) (k : Nat) (av : List Value) (w0 : va_W) (ri : Int64) (w1 : va_W) : Prop :=
  Met l y (WS y b n r) (RM k) (va_Pc av (Ok G w0)) (va_Ql (fun (x : Int64) (_ : Unit) => x = ri) (fun _ => Ok G w1) G.2.1) 0 0 G.2.1
def XCv (l : Launch) (G : GM) (y : MethodName) (b : ByteArray) (n : Nat) (r : Option FieldType) (k : Nat) (av : List Value) (w0 : va_W) (w1 : va_W) : Prop :=
  Met l y (WS y b n r) (RM k) (va_Pc av (Ok G w0)) (va_Qv (fun (_ : Unit) => True) (fun _ => Ok G w1) G.2.1) 0 0 G.2.1
theorem ok_end {G : GM} {w : va_W} {s t : State} {H : Heap} {locs : List Loc} (hK : va_K G.1 vwCl (TY G) s) (hN : Nst s) (hA : ∀ q : Nat, s.heap.size ≤ q → G.2.1 q) (ht : t.heap = H) (hW : s.WarmedH t.vm) (hn : Now G s w H locs) : Ok G w t :=
  ⟨by rw [ht]; exact hn.1, va_K.moved hW.alike hK, hn.2.1, fun q hq => hA q (Nat.le_trans hn.2.2.1 (by rw [← ht]; exact hq)), nst_warm hW hN⟩
theorem ok_blind {G : GM} {w : va_W} {av : List Value} : FrameBlind (va_Pc av (Ok G w)) := fun a U g mk q =>
  ⟨q.1, q.2.1, va_K.moved (u := U) (U := U.calling g mk a) (Vm.Alike.refl U.vm) q.2.2.1, q.2.2.2.1, q.2.2.2.2.1, nst_same (u := U) (U := U.calling g mk a) rfl q.2.2.2.2.2⟩
theorem ok_in {G : GM} {w : va_W} {s U : State} {H : Heap} {locs : List Loc} (hK : va_K G.1 vwCl (TY G) s) (hN : Nst s) (hA : ∀ q : Nat, s.heap.size ≤ q → G.2.1 q) (hU : U.heap = H) (hW : s.WarmedH U.vm) (hn : Now G s w H locs) : Ok G w U :=
  ⟨by rw [hU]; exact hn.1, va_K.moved hW.alike hK, hn.2.1, fun q hq => hA q (Nat.le_trans hn.2.2.1 (by rw [← hU]; exact hq)), nst_warm hW hN⟩
theorem xi_start {l : Launch} {G : GM} {y : MethodName} {b : ByteArray} {n : Nat} {ty : FieldType} {k : Nat} {av : List Value} {w0 w1 : va_W} {ri : Int32}
    (hy : plainName y.cls = true) (hnr : narrow ty (.int ri) = .int ri) (hn : (lg_sl av).length ≤ n)
    (body : ∀ (p : Program) (e : Env) (s : State) (m : MethodId) (args : Array Value) (below : List Frame) (meth : Method) (c : Code) (Q : State → Prop) (ls : Array Slot), FX p s m args c b n y.cls G → Now G s w0 s.heap [] → lv_has ls n (lv_args 0 av) →
      (∀ (H : Heap) (locs : List Loc) (ls : Array Slot) (pc : Nat) (v : Int32) (w : va_W), decode b pc = .ok (.ireturn, 1) → v = ri → w = w1 → Now G s w H locs → W p l e (RM k) s m args below meth c H locs 0 0 Q (F0 m pc ls [.int v])) →
      W p l e (RM k) s m args below meth c s.heap [] 0 0 Q (F0 m 0 ls [])) : XCi l G y b n (some ty) k av w0 ri w1 := by
  refine Met.ofW (cc := b) (maxL := n) (ret := some ty) hy rfl ?_
  intro p e s m args below meth c s₁ B hml hv
  obtain ⟨rfl, hP, hK, hD, hA, hN⟩ := hv
  have hx := B.exec
  have hb := B.bytes
  have hr := B.returns
  have hts := atoms_spec (ws := WS y b n (some ty)) B.pre
  have hown : s.vm.findClass y.cls = some m.cls := findClass_of_methodNamed B.named
  have hlocks := B.notSynchronized
  rw [lg_entry_eq]
  refine body p e s m _ below meth c _ _ ⟨hx, hb, hml, hown, fun w h => hts w (List.mem_cons_of_mem _ h), hK, hN, hA⟩ ⟨hP, hD, va_S.rf⟩ (lv_entry av hn) (fun H locs ls pc v w hd hv hw hnw => ?_)
  subst hv; subst hw
  exact W.zret hx hb hr hnr (fun t ht hW => ⟨⟨v, (), rfl, rfl, ok_end hK hN hA ht hW hnw⟩, hnw.2.2.F ht⟩) hnw.2.2.2.2 hd
theorem xl_start {l : Launch} {G : GM} {y : MethodName} {b : ByteArray} {n : Nat} {k : Nat} {av : List Value} {w0 w1 : va_W} {ri : Int64}
    (hy : plainName y.cls = true) (hn : (lg_sl av).length ≤ n)
    (body : ∀ (p : Program) (e : Env) (s : State) (m : MethodId) (args : Array Value) (below : List Frame) (meth : Method) (c : Code) (Q : State → Prop) (ls : Array Slot), FX p s m args c b n y.cls G → Now G s w0 s.heap [] → lv_has ls n (lv_args 0 av) →
      (∀ (H : Heap) (locs : List Loc) (ls : Array Slot) (pc : Nat) (v : Int64) (w : va_W), decode b pc = .ok (.lreturn, 1) → v = ri → w = w1 → Now G s w H locs → W p l e (RM k) s m args below meth c H locs 0 0 Q (F0 m pc ls [.long v])) →
      W p l e (RM k) s m args below meth c s.heap [] 0 0 Q (F0 m 0 ls [])) : XCl l G y b n (some .long) k av w0 ri w1 := by
  refine Met.ofW (cc := b) (maxL := n) (ret := some .long) hy rfl ?_
  intro p e s m args below meth c s₁ B hml hv
  obtain ⟨rfl, hP, hK, hD, hA, hN⟩ := hv
  have hx := B.exec
  have hb := B.bytes
  have hr := B.returns
  have hts := atoms_spec (ws := WS y b n (some .long)) B.pre
  have hown : s.vm.findClass y.cls = some m.cls := findClass_of_methodNamed B.named
  have hlocks := B.notSynchronized
  rw [lg_entry_eq]
  refine body p e s m _ below meth c _ _ ⟨hx, hb, hml, hown, fun w h => hts w (List.mem_cons_of_mem _ h), hK, hN, hA⟩ ⟨hP, hD, va_S.rf⟩ (lv_entry av hn) (fun H locs ls pc v w hd hv hw hnw => ?_)
  subst hv; subst hw
  exact W.lret hx hb hr (fun t ht hW => ⟨⟨v, (), rfl, rfl, ok_end hK hN hA ht hW hnw⟩, hnw.2.2.F ht⟩) hnw.2.2.2.2 hd
theorem xv_start {l : Launch} {G : GM} {y : MethodName} {b : ByteArray} {n : Nat} {k : Nat} {av : List Value} {w0 w1 : va_W}
    (hy : plainName y.cls = true) (hn : (lg_sl av).length ≤ n)
    (body : ∀ (p : Program) (e : Env) (s : State) (m : MethodId) (args : Array Value) (below : List Frame) (meth : Method) (c : Code) (Q : State → Prop) (ls : Array Slot), FX p s m args c b n y.cls G → Now G s w0 s.heap [] → lv_has ls n (lv_args 0 av) →
      (∀ (H : Heap) (locs : List Loc) (ls : Array Slot) (pc : Nat) (w : va_W), decode b pc = .ok (.return_, 1) → w = w1 → Now G s w H locs → W p l e (RM k) s m args below meth c H locs 0 0 Q (F0 m pc ls [])) →
      W p l e (RM k) s m args below meth c s.heap [] 0 0 Q (F0 m 0 ls [])) : XCv l G y b n none k av w0 w1 := by
  refine Met.ofW (cc := b) (maxL := n) (ret := none) hy rfl ?_
  intro p e s m args below meth c s₁ B hml hv
  obtain ⟨rfl, hP, hK, hD, hA, hN⟩ := hv
  have hx := B.exec
  have hb := B.bytes
  have hr := B.returns
  have hts := atoms_spec (ws := WS y b n none) B.pre
  have hown : s.vm.findClass y.cls = some m.cls := findClass_of_methodNamed B.named
  have hlocks := B.notSynchronized
  rw [lg_entry_eq]
  refine body p e s m _ below meth c _ _ ⟨hx, hb, hml, hown, fun w h => hts w (List.mem_cons_of_mem _ h), hK, hN, hA⟩ ⟨hP, hD, va_S.rf⟩ (lv_entry av hn) (fun H locs ls pc w hd hw hnw => ?_)
  subst hw
  exact W.vret hx hb hr (fun t ht hW => ⟨⟨(), rfl, trivial, ok_end hK hN hA ht hW hnw⟩, hnw.2.2.F ht⟩) hnw.2.2.2.2 hd
/-- what the tables say of a method that is called, once for all calls -/
def MIv (y : MethodName) (b : ByteArray) (n : Nat) (r : Option FieldType) (nn : Nat) : Prop := Cond.code y b n r ∈ goodT ∧ Cond.instanceMethod y ∈ goodT ∧ Cond.selects y.cls y y ∈ goodT ∧ Cond.initialized y.cls ∈ goodT ∧ (y.cls ≠ "java/lang/invoke/MethodHandle" ∧ y.cls ≠ "java/lang/invoke/VarHandle" ∧ (parseMethodDescriptor y.desc).map (fun d => d.parameters.length) = some nn) ∧ n ≤ 45
def MIs (y : MethodName) (b : ByteArray) (n : Nat) (r : Option FieldType) (nn : Nat) : Prop := Cond.code y b n r ∈ goodT ∧ Cond.static y ∈ goodT ∧ Cond.initialized y.cls ∈ goodT ∧ (y.cls ≠ "java/lang/invoke/MethodHandle" ∧ y.cls ≠ "java/lang/invoke/VarHandle" ∧ (parseMethodDescriptor y.desc).map (fun d => d.parameters.length) = some nn) ∧ n ≤ 45
theorem good_WS {y : MethodName} {b : ByteArray} {n : Nat} {r : Option FieldType} (h : Cond.code y b n r ∈ goodT) : GoodIn goodT (WS y b n r) := fun w hw => by
  have hm : w ∈ goodT := by
    rcases List.mem_cons.mp hw with e | e
    · rw [e]; exact h
    · exact e
  exact ⟨hm, good_of_word (List.mem_filter.mp hm).2⟩
section XRUN
variable {p : Program} {l : Launch} {e : Env} {k : Nat} {s : State} {m : MethodId} {args : Array Value} {below : List Frame} {meth : Method} {c : Code} {H : Heap} {locs : List Loc} {Q : State → Prop} {cc : ByteArray} {nL : Nat} {own : String} {G : GM}
  {y : MethodName} {b : ByteArray} {n : Nat} {r : Option FieldType} {k2 : Nat} {w0 w1 : va_W} {pc : Nat} {ls : Array Slot} {st0 rest : List Value} {idx : Nat} {As : List Value} {a : Nat} {Qc : Array Value → State → Outcome → State → Prop}
theorem rm_ok {k k2 n : Nat} (hk : k2 < k) (hn : n ≤ 45) : (RM k2).frames + 1 ≤ (RM k).frames ∧ 8 + (n + 11) + (RM k2).locals ≤ (RM k).locals := by
  show k2 + 1 ≤ k ∧ 8 + (n + 11) + 64 * k2 ≤ 64 * k
  omega
theorem xrunV (F : FX p s m args c cc nL own G) (N : Now G s w0 H locs) (hMet : Met l y (WS y b n r) (RM k2) (va_Pc (.ref a :: As) (Ok G w0)) Qc 0 0 G.2.1) (hM : MIv y b n r As.length) (hl : Cond.methodLink own idx y ∈ goodT) (hk : k2 < k) (hsz : ls.size = nL) (hst : st0 = As.reverse ++ .ref a :: rest) (hrest : (rest.map fun v => v.category).sum ≤ 8)
    {q0 ci : Nat} {fs : List Value} {T : u_T} {NN : Nat} (he : w0[q0]? = some (a, .inr (ci, fs))) (hc : vwCl[ci]? = some (y.cls, T, NN)) (hd : decode cc pc = .ok (.invokevirtual idx, 3)) :
    va_Run p l e (RM k) s m args below meth c H locs 0 0 0 0 (F0 m pc ls st0) rest (Qc (Value.ref a :: As).toArray) G.2.1 := by
  obtain ⟨hx, hb, hml, hown, hts, hK, hN, hA⟩ := F
  obtain ⟨m1, m2, m3, m4, m5, m6⟩ := hM
  exact va_runV (As := As) (rest := rest) ⟨hx, hb, hml, hown, hts⟩ hMet ⟨callB_of As.length hts (good_WS m1) rfl rfl rfl (hts _ m4) (hts _ hl) m5 (rm_ok hk m6), hts _ m2, hts _ m3⟩
    ⟨ok_blind, va_recv hK N.1 hc he, fun U hU hW => ⟨rfl, ok_in hK hN hA hU hW N⟩⟩ rfl rfl hsz hst (lv_room hrest) hd ⟨Nat.zero_le _, Nat.zero_le _⟩
theorem xrunS (F : FX p s m args c cc nL own G) (N : Now G s w0 H locs) (hMet : Met l y (WS y b n r) (RM k2) (va_Pc As (Ok G w0)) Qc 0 0 G.2.1) (hM : MIs y b n r As.length) (hl : Cond.methodLink own idx y ∈ goodT) (hk : k2 < k) (hsz : ls.size = nL) (hst : st0 = As.reverse ++ rest) (hrest : (rest.map fun v => v.category).sum ≤ 8) (hd : decode cc pc = .ok (.invokestatic idx, 3)) :
    va_Run p l e (RM k) s m args below meth c H locs 0 0 0 0 (F0 m pc ls st0) rest (Qc As.toArray) G.2.1 := by
  obtain ⟨hx, hb, hml, hown, hts, hK, hN, hA⟩ := F
  obtain ⟨m1, m2, m4, m5, m6⟩ := hM
  exact va_runS (As := As) (rest := rest) ⟨hx, hb, hml, hown, hts⟩ hMet ⟨callB_of As.length hts (good_WS m1) rfl rfl rfl (hts _ m4) (hts _ hl) m5 (rm_ok hk m6), hts _ m2⟩
    ⟨ok_blind, fun U hU hW => ⟨rfl, ok_in hK hN hA hU hW N⟩⟩ rfl rfl hsz hst (lv_room hrest) hd ⟨Nat.zero_le _, Nat.zero_le _⟩
theorem xrunSN {host : String} (F : FX p s m args c cc nL own G) (N : Now G s w0 H locs) (hMet : Met l y (WS y b n r) (RM k2) (va_Pc As (Ok G w0)) Qc 0 0 G.2.1) (hM : MIs y b n r As.length) (hl : Cond.methodLinkNest own idx y host ∈ nestT) (hk : k2 < k) (hsz : ls.size = nL) (hst : st0 = As.reverse ++ rest) (hrest : (rest.map fun v => v.category).sum ≤ 8) (hd : decode cc pc = .ok (.invokestatic idx, 3)) :
    va_Run p l e (RM k) s m args below meth c H locs 0 0 0 0 (F0 m pc ls st0) rest (Qc As.toArray) G.2.1 := by
  obtain ⟨hx, hb, hml, hown, hts, hK, hN, hA⟩ := F
  obtain ⟨m1, m2, m4, m5, m6⟩ := hM
  exact va_runSN (As := As) (rest := rest) ⟨hx, hb, hml, hown, hts⟩ hMet ⟨va_cnB As.length hts (good_WS m1) rfl rfl rfl (hN _ hl) (hts _ m4) m5 (rm_ok hk m6), hts _ m2, trivial⟩
    ⟨ok_blind, fun U hU hW => ⟨rfl, ok_in hK hN hA hU hW N⟩⟩ rfl rfl hsz hst (lv_room hrest) hd ⟨Nat.zero_le _, Nat.zero_le _⟩
theorem xgo_i {ri : Int32} (N : Now G s w0 H locs) {av : Array Value} (h : va_Run p l e (RM k) s m args below meth c H locs 0 0 0 0 (F0 m pc ls st0) rest (va_Qi (fun (x : Int32) (_ : Unit) => x = ri) (fun _ => Ok G w1) G.2.1 av) G.2.1)
    (kk : ∀ (H : Heap) (locs : List Loc), Now G s w1 H locs → W p l e (RM k) s m args below meth c H locs 0 0 Q (F0 m (pc + 3) ls (.int ri :: rest))) : W p l e (RM k) s m args below meth c H locs 0 0 Q (F0 m pc ls st0) :=
  va_calli h N.2.2 (fun _ _ h => h) (fun _ h => h) (fun r u t H1 locs1 ht hvm hw hB hz1 hk1 hS => by subst hw; exact kk H1 locs1 ⟨by rw [← ht]; exact hB.1, hB.2.2.1, hS⟩)
theorem xgo_l {ri : Int64} (N : Now G s w0 H locs) {av : Array Value} (h : va_Run p l e (RM k) s m args below meth c H locs 0 0 0 0 (F0 m pc ls st0) rest (va_Ql (fun (x : Int64) (_ : Unit) => x = ri) (fun _ => Ok G w1) G.2.1 av) G.2.1)
    (kk : ∀ (H : Heap) (locs : List Loc), Now G s w1 H locs → W p l e (RM k) s m args below meth c H locs 0 0 Q (F0 m (pc + 3) ls (.long ri :: rest))) : W p l e (RM k) s m args below meth c H locs 0 0 Q (F0 m pc ls st0) :=
  va_calll h N.2.2 (fun _ _ h => h) (fun _ h => h) (fun r u t H1 locs1 ht hvm hw hB hz1 hk1 hS => by subst hw; exact kk H1 locs1 ⟨by rw [← ht]; exact hB.1, hB.2.2.1, hS⟩)
theorem xgo_v (N : Now G s w0 H locs) {av : Array Value} (h : va_Run p l e (RM k) s m args below meth c H locs 0 0 0 0 (F0 m pc ls st0) rest (va_Qv (fun (_ : Unit) => True) (fun _ => Ok G w1) G.2.1 av) G.2.1)
    (kk : ∀ (H : Heap) (locs : List Loc), Now G s w1 H locs → W p l e (RM k) s m args below meth c H locs 0 0 Q (F0 m (pc + 3) ls rest)) : W p l e (RM k) s m args below meth c H locs 0 0 Q (F0 m pc ls st0) :=
  va_callv h N.2.2 (fun _ _ h => h) (fun _ h => h) (fun u t H1 locs1 ht hvm hw hB hz1 hk1 hS => kk H1 locs1 ⟨by rw [← ht]; exact hB.1, hB.2.2.1, hS⟩)
theorem cV_i {ri : Int32} (F : FX p s m args c cc nL own G) (N : Now G s w0 H locs) (hC : XCi l G y b n r k2 (.ref a :: As) w0 ri w1) (hM : MIv y b n r As.length) (hl : Cond.methodLink own idx y ∈ goodT) (hk : k2 < k) (hsz : ls.size = nL) (hst : st0 = As.reverse ++ .ref a :: rest) (hrest : (rest.map fun v => v.category).sum ≤ 8)
    {q0 ci : Nat} {fs : List Value} {T : u_T} {NN : Nat} (he : w0[q0]? = some (a, .inr (ci, fs))) (hc : vwCl[ci]? = some (y.cls, T, NN)) (hd : decode cc pc = .ok (.invokevirtual idx, 3))
    (kk : ∀ (H : Heap) (locs : List Loc), Now G s w1 H locs → W p l e (RM k) s m args below meth c H locs 0 0 Q (F0 m (pc + 3) ls (.int ri :: rest))) : W p l e (RM k) s m args below meth c H locs 0 0 Q (F0 m pc ls st0) := xgo_i N (xrunV F N hC hM hl hk hsz hst hrest he hc hd) kk
theorem cV_l {ri : Int64} (F : FX p s m args c cc nL own G) (N : Now G s w0 H locs) (hC : XCl l G y b n r k2 (.ref a :: As) w0 ri w1) (hM : MIv y b n r As.length) (hl : Cond.methodLink own idx y ∈ goodT) (hk : k2 < k) (hsz : ls.size = nL) (hst : st0 = As.reverse ++ .ref a :: rest) (hrest : (rest.map fun v => v.category).sum ≤ 8)
    {q0 ci : Nat} {fs : List Value} {T : u_T} {NN : Nat} (he : w0[q0]? = some (a, .inr (ci, fs))) (hc : vwCl[ci]? = some (y.cls, T, NN)) (hd : decode cc pc = .ok (.invokevirtual idx, 3))
    (kk : ∀ (H : Heap) (locs : List Loc), Now G s w1 H locs → W p l e (RM k) s m args below meth c H locs 0 0 Q (F0 m (pc + 3) ls (.long ri :: rest))) : W p l e (RM k) s m args below meth c H locs 0 0 Q (F0 m pc ls st0) := xgo_l N (xrunV F N hC hM hl hk hsz hst hrest he hc hd) kk
theorem cV_v (F : FX p s m args c cc nL own G) (N : Now G s w0 H locs) (hC : XCv l G y b n r k2 (.ref a :: As) w0 w1) (hM : MIv y b n r As.length) (hl : Cond.methodLink own idx y ∈ goodT) (hk : k2 < k) (hsz : ls.size = nL) (hst : st0 = As.reverse ++ .ref a :: rest) (hrest : (rest.map fun v => v.category).sum ≤ 8)
    {q0 ci : Nat} {fs : List Value} {T : u_T} {NN : Nat} (he : w0[q0]? = some (a, .inr (ci, fs))) (hc : vwCl[ci]? = some (y.cls, T, NN)) (hd : decode cc pc = .ok (.invokevirtual idx, 3))
    (kk : ∀ (H : Heap) (locs : List Loc), Now G s w1 H locs → W p l e (RM k) s m args below meth c H locs 0 0 Q (F0 m (pc + 3) ls rest)) : W p l e (RM k) s m args below meth c H locs 0 0 Q (F0 m pc ls st0) := xgo_v N (xrunV F N hC hM hl hk hsz hst hrest he hc hd) kk
theorem cS_i {ri : Int32} (F : FX p s m args c cc nL own G) (N : Now G s w0 H locs) (hC : XCi l G y b n r k2 As w0 ri w1) (hM : MIs y b n r As.length) (hl : Cond.methodLink own idx y ∈ goodT) (hk : k2 < k) (hsz : ls.size = nL) (hst : st0 = As.reverse ++ rest) (hrest : (rest.map fun v => v.category).sum ≤ 8) (hd : decode cc pc = .ok (.invokestatic idx, 3))
    (kk : ∀ (H : Heap) (locs : List Loc), Now G s w1 H locs → W p l e (RM k) s m args below meth c H locs 0 0 Q (F0 m (pc + 3) ls (.int ri :: rest))) : W p l e (RM k) s m args below meth c H locs 0 0 Q (F0 m pc ls st0) := xgo_i N (xrunS F N hC hM hl hk hsz hst hrest hd) kk
theorem cS_v (F : FX p s m args c cc nL own G) (N : Now G s w0 H locs) (hC : XCv l G y b n r k2 As w0 w1) (hM : MIs y b n r As.length) (hl : Cond.methodLink own idx y ∈ goodT) (hk : k2 < k) (hsz : ls.size = nL) (hst : st0 = As.reverse ++ rest) (hrest : (rest.map fun v => v.category).sum ≤ 8) (hd : decode cc pc = .ok (.invokestatic idx, 3))
    (kk : ∀ (H : Heap) (locs : List Loc), Now G s w1 H locs → W p l e (RM k) s m args below meth c H locs 0 0 Q (F0 m (pc + 3) ls rest)) : W p l e (RM k) s m args below meth c H locs 0 0 Q (F0 m pc ls st0) := xgo_v N (xrunS F N hC hM hl hk hsz hst hrest hd) kk
theorem cN_i {ri : Int32} {host : String} (F : FX p s m args c cc nL own G) (N : Now G s w0 H locs) (hC : XCi l G y b n r k2 As w0 ri w1) (hM : MIs y b n r As.length) (hl : Cond.methodLinkNest own idx y host ∈ nestT) (hk : k2 < k) (hsz : ls.size = nL) (hst : st0 = As.reverse ++ rest) (hrest : (rest.map fun v => v.category).sum ≤ 8) (hd : decode cc pc = .ok (.invokestatic idx, 3))
    (kk : ∀ (H : Heap) (locs : List Loc), Now G s w1 H locs → W p l e (RM k) s m args below meth c H locs 0 0 Q (F0 m (pc + 3) ls (.int ri :: rest))) : W p l e (RM k) s m args below meth c H locs 0 0 Q (F0 m pc ls st0) := xgo_i N (xrunSN F N hC hM hl hk hsz hst hrest hd) kk
end XRUN
end
section
theorem inGX0 : ∀ w ∈ u_ws RX0 TX0 4, w ∈ goodT := by decide +kernel
theorem inGX1 : ∀ w ∈ u_ws RX1 TX1 2, w ∈ goodT := by decide +kernel
theorem inGX2 : ∀ w ∈ u_ws RX2 TX2 3, w ∈ goodT := by decide +kernel
theorem inGX3 : ∀ w ∈ u_ws RX3 TX3 3, w ∈ goodT := by decide +kernel
theorem inGX4 : ∀ w ∈ u_ws RX4 TX4 2, w ∈ goodT := by decide +kernel
theorem inGX6 : ∀ w ∈ u_ws RX6 TX6 2, w ∈ goodT := by decide +kernel
theorem inGX7 : ∀ w ∈ u_ws RX7 TX7 9, w ∈ goodT := by decide +kernel
theorem inGX8 : ∀ w ∈ u_ws RX8 TX8 9, w ∈ goodT := by decide +kernel
theorem inGX9 : ∀ w ∈ u_ws RX9 TX9 23, w ∈ goodT := by decide +kernel
def sI (st : ST) (k : Nat) (v : Int32) : ST := (va_up st.1 k v, st.2)
def sA (st : ST) (k : Nat) (f : Nat → Int32) : ST := (st.1, va_up st.2.1 k f, st.2.2)
def sL (st : ST) (v : Int64) : ST := (st.1, st.2.1, v)
abbrev av_i (c : ClassId) (n : Nat) (f : Nat → Int32) : va_E := .inl (c, n, .inl f)
def XW (G : GM) (ad : Nat → Nat) (st : ST) : va_W := [(ad 0, .inr (7, [.ref (ad 1), .ref (ad 2), .ref (ad 3), .ref (ad 4), .ref (ad 5), .ref (ad 6), .int (st.1 0), .int (st.1 1), .int (st.1 2)])), (ad 1, .inr (5, [.ref (ad 7), .int (st.1 3)])), (ad 2, .inr (3, [.ref (ad 1), .ref (ad 8), .int (st.1 4)])), (ad 3, .inr (4, [.ref (ad 9), .ref (ad 10)])), (ad 4, .inr (2, [.ref (ad 11), .int (st.1 5), .int (st.1 6)])), (ad 5, .inr (6, [.ref (ad 3), .ref (ad 12), .ref (ad 13), .ref (ad 14), .ref (ad 15), .ref (ad 16), .int (st.1 7), .int (st.1 8), .int (st.1 9)])), (ad 6, .inr (1, [.ref (ad 17), .int (st.1 10)])), (ad 7, av_i G.2.2.1 60 (st.2.1 0)), (ad 8, av_i G.2.2.1 4 (st.2.1 1)), (ad 9, av_i G.2.2.1 144 (st.2.1 2)), (ad 10, av_i G.2.2.1 144 (st.2.1 3)), (ad 11, av_i G.2.2.1 864 (st.2.1 4)), (ad 12, av_i G.2.2.1 36 (st.2.1 5)), (ad 13, av_i G.2.2.1 36 (st.2.1 6)), (ad 14, av_i G.2.2.1 36 (st.2.1 7)), (ad 15, av_i G.2.2.1 36 (st.2.1 8)), (ad 16, av_i G.2.2.2 36 (st.2.1 9)), (ad 17, av_i G.2.2.1 39 (st.2.1 10))]
def MW (G : GM) (ad : Nat → Nat) (st : ST) : va_W := [(ad 0, .inr (8, [.ref (ad 1), .ref (ad 2), .ref (ad 3), .int (st.1 0), .ref (ad 4), .ref (ad 5), .int (st.1 1), .ref (ad 6), .int (st.1 2), .int (st.1 3), .ref (ad 7), .int (st.1 4), .ref (ad 8), .ref (ad 9), .ref (ad 10), .ref (ad 11), .ref (ad 12), .ref (ad 13), .int (st.1 5), .int (st.1 6), .int (st.1 7), .int (st.1 8), .long st.2.2])), (ad 1, av_i G.2.2.1 900 (st.2.1 0)), (ad 2, av_i G.2.2.1 900 (st.2.1 1)), (ad 3, av_i G.2.2.1 5400 (st.2.1 2)), (ad 4, av_i G.2.2.1 3 (st.2.1 3)), (ad 5, av_i G.2.2.1 60 (st.2.1 4)), (ad 6, av_i G.2.2.1 25 (st.2.1 5)), (ad 7, av_i G.2.2.1 60 (st.2.1 6)), (ad 8, av_i G.2.2.1 36 (st.2.1 7)), (ad 9, av_i G.2.2.1 36 (st.2.1 8)), (ad 10, av_i G.2.2.1 36 (st.2.1 9)), (ad 11, av_i G.2.2.1 36 (st.2.1 10)), (ad 12, av_i G.2.2.1 36 (st.2.1 11)), (ad 13, av_i G.2.2.1 36 (st.2.1 12))]
section XROWS
variable {p : Program} {l : Launch} {e : Env} {k : Nat} {s : State} {m : MethodId} {args : Array Value} {below : List Frame} {meth : Method} {c : Code} {H : Heap} {locs : List Loc} {Q : State → Prop} {cc : ByteArray} {nL : Nat} {own : String} {G : GM} {pc : Nat} {ls : Array Slot} {rest : List Value} {idx : Nat} {ad : Nat → Nat} {st : ST} {ex : va_W}
theorem gx_0_text (F : FX p s m args c cc nL own G) (N : Now G s (XW G ad st ++ ex) H locs) (hl : Cond.fieldLink own idx RX8 (TX8 0).2.1 (TX8 0).2.2.1 ∈ goodT) (hd : decode cc pc = .ok (.getfield idx, 3)) (kk : W p l e (RM k) s m args below meth c H locs 0 0 Q (F0 m (pc + 3) ls (.ref (ad 1) :: rest))) : W p l e (RM k) s m args below meth c H locs 0 0 Q (F0 m pc ls (.ref (ad 0) :: rest)) :=
  va_get (D := G.1) (ci := 7) (C := RX8) (T := TX8) (N := 9) F.1 F.2.1 F.2.2.2.2.1 inGX8 F.2.2.2.1 F.2.2.2.2.2.1 N.1 0 rfl rfl 0 (by decide) (F.2.2.2.2.1 _ hl) (fun _ h => h) rfl hd kk
theorem gx_0_reader (F : FX p s m args c cc nL own G) (N : Now G s (XW G ad st ++ ex) H locs) (hl : Cond.fieldLink own idx RX8 (TX8 1).2.1 (TX8 1).2.2.1 ∈ goodT) (hd : decode cc pc = .ok (.getfield idx, 3)) (kk : W p l e (RM k) s m args below meth c H locs 0 0 Q (F0 m (pc + 3) ls (.ref (ad 2) :: rest))) : W p l e (RM k) s m args below meth c H locs 0 0 Q (F0 m pc ls (.ref (ad 0) :: rest)) :=
  va_get (D := G.1) (ci := 7) (C := RX8) (T := TX8) (N := 9) F.1 F.2.1 F.2.2.2.2.1 inGX8 F.2.2.2.1 F.2.2.2.2.2.1 N.1 0 rfl rfl 1 (by decide) (F.2.2.2.2.1 _ hl) (fun _ h => h) rfl hd kk
theorem gx_0_sheet (F : FX p s m args c cc nL own G) (N : Now G s (XW G ad st ++ ex) H locs) (hl : Cond.fieldLink own idx RX8 (TX8 2).2.1 (TX8 2).2.2.1 ∈ goodT) (hd : decode cc pc = .ok (.getfield idx, 3)) (kk : W p l e (RM k) s m args below meth c H locs 0 0 Q (F0 m (pc + 3) ls (.ref (ad 3) :: rest))) : W p l e (RM k) s m args below meth c H locs 0 0 Q (F0 m pc ls (.ref (ad 0) :: rest)) :=
  va_get (D := G.1) (ci := 7) (C := RX8) (T := TX8) (N := 9) F.1 F.2.1 F.2.2.2.2.1 inGX8 F.2.2.2.1 F.2.2.2.2.2.1 N.1 0 rfl rfl 2 (by decide) (F.2.2.2.2.1 _ hl) (fun _ h => h) rfl hd kk
theorem gx_0_past (F : FX p s m args c cc nL own G) (N : Now G s (XW G ad st ++ ex) H locs) (hl : Cond.fieldLink own idx RX8 (TX8 3).2.1 (TX8 3).2.2.1 ∈ goodT) (hd : decode cc pc = .ok (.getfield idx, 3)) (kk : W p l e (RM k) s m args below meth c H locs 0 0 Q (F0 m (pc + 3) ls (.ref (ad 4) :: rest))) : W p l e (RM k) s m args below meth c H locs 0 0 Q (F0 m pc ls (.ref (ad 0) :: rest)) :=
  va_get (D := G.1) (ci := 7) (C := RX8) (T := TX8) (N := 9) F.1 F.2.1 F.2.2.2.2.1 inGX8 F.2.2.2.1 F.2.2.2.2.2.1 N.1 0 rfl rfl 3 (by decide) (F.2.2.2.2.1 _ hl) (fun _ h => h) rfl hd kk
theorem gx_0_values (F : FX p s m args c cc nL own G) (N : Now G s (XW G ad st ++ ex) H locs) (hl : Cond.fieldLink own idx RX8 (TX8 4).2.1 (TX8 4).2.2.1 ∈ goodT) (hd : decode cc pc = .ok (.getfield idx, 3)) (kk : W p l e (RM k) s m args below meth c H locs 0 0 Q (F0 m (pc + 3) ls (.ref (ad 5) :: rest))) : W p l e (RM k) s m args below meth c H locs 0 0 Q (F0 m pc ls (.ref (ad 0) :: rest)) :=
  va_get (D := G.1) (ci := 7) (C := RX8) (T := TX8) (N := 9) F.1 F.2.1 F.2.2.2.2.1 inGX8 F.2.2.2.1 F.2.2.2.2.2.1 N.1 0 rfl rfl 4 (by decide) (F.2.2.2.2.1 _ hl) (fun _ h => h) rfl hd kk
theorem gx_0_page (F : FX p s m args c cc nL own G) (N : Now G s (XW G ad st ++ ex) H locs) (hl : Cond.fieldLink own idx RX8 (TX8 5).2.1 (TX8 5).2.2.1 ∈ goodT) (hd : decode cc pc = .ok (.getfield idx, 3)) (kk : W p l e (RM k) s m args below meth c H locs 0 0 Q (F0 m (pc + 3) ls (.ref (ad 6) :: rest))) : W p l e (RM k) s m args below meth c H locs 0 0 Q (F0 m pc ls (.ref (ad 0) :: rest)) :=
  va_get (D := G.1) (ci := 7) (C := RX8) (T := TX8) (N := 9) F.1 F.2.1 F.2.2.2.2.1 inGX8 F.2.2.2.1 F.2.2.2.2.2.1 N.1 0 rfl rfl 5 (by decide) (F.2.2.2.2.1 _ hl) (fun _ h => h) rfl hd kk
theorem gx_0_bads (F : FX p s m args c cc nL own G) (N : Now G s (XW G ad st ++ ex) H locs) (hl : Cond.fieldLink own idx RX8 (TX8 6).2.1 (TX8 6).2.2.1 ∈ goodT) (hd : decode cc pc = .ok (.getfield idx, 3)) (kk : W p l e (RM k) s m args below meth c H locs 0 0 Q (F0 m (pc + 3) ls (.int (st.1 0) :: rest))) : W p l e (RM k) s m args below meth c H locs 0 0 Q (F0 m pc ls (.ref (ad 0) :: rest)) :=
  va_get (D := G.1) (ci := 7) (C := RX8) (T := TX8) (N := 9) F.1 F.2.1 F.2.2.2.2.1 inGX8 F.2.2.2.1 F.2.2.2.2.2.1 N.1 0 rfl rfl 6 (by decide) (F.2.2.2.2.1 _ hl) (fun _ h => h) rfl hd kk
theorem px_0_bads {v : Int32} (F : FX p s m args c cc nL own G) (N : Now G s (XW G ad st ++ ex) H locs) (hl : Cond.fieldLink own idx RX8 (TX8 6).2.1 (TX8 6).2.2.1 ∈ goodT) (hd : decode cc pc = .ok (.putfield idx, 3)) (kk : ∀ st1 : ST, st1 = sI st 0 v → ∀ (H : Heap) (locs : List Loc), Now G s (XW G ad st1 ++ ex) H locs → W p l e (RM k) s m args below meth c H locs 0 0 Q (F0 m (pc + 3) ls rest)) : W p l e (RM k) s m args below meth c H locs 0 0 Q (F0 m pc ls (.int v :: .ref (ad 0) :: rest)) :=
  va_put (D := G.1) (ci := 7) (v := .int v) (ty := .int) (C := RX8) (T := TX8) (N := 9) F.1 F.2.1 F.2.2.2.2.1 inGX8 tyX8 tyX8_ok nmX8 F.2.2.2.1 F.2.2.2.2.2.1 N.1 N.2.1 N.2.2 0 rfl rfl 6 (by decide) (F.2.2.2.2.1 _ hl) (fun _ h => h) rfl (by decide +kernel) rfl rfl (Nat.le_of_ble_eq_true rfl) hd (fun H locs hP hD hS => kk _ rfl H locs ⟨hP, hD, hS⟩)
theorem gx_0_nos (F : FX p s m args c cc nL own G) (N : Now G s (XW G ad st ++ ex) H locs) (hl : Cond.fieldLink own idx RX8 (TX8 7).2.1 (TX8 7).2.2.1 ∈ goodT) (hd : decode cc pc = .ok (.getfield idx, 3)) (kk : W p l e (RM k) s m args below meth c H locs 0 0 Q (F0 m (pc + 3) ls (.int (st.1 1) :: rest))) : W p l e (RM k) s m args below meth c H locs 0 0 Q (F0 m pc ls (.ref (ad 0) :: rest)) :=
  va_get (D := G.1) (ci := 7) (C := RX8) (T := TX8) (N := 9) F.1 F.2.1 F.2.2.2.2.1 inGX8 F.2.2.2.1 F.2.2.2.2.2.1 N.1 0 rfl rfl 7 (by decide) (F.2.2.2.2.1 _ hl) (fun _ h => h) rfl hd kk
theorem px_0_nos {v : Int32} (F : FX p s m args c cc nL own G) (N : Now G s (XW G ad st ++ ex) H locs) (hl : Cond.fieldLink own idx RX8 (TX8 7).2.1 (TX8 7).2.2.1 ∈ goodT) (hd : decode cc pc = .ok (.putfield idx, 3)) (kk : ∀ st1 : ST, st1 = sI st 1 v → ∀ (H : Heap) (locs : List Loc), Now G s (XW G ad st1 ++ ex) H locs → W p l e (RM k) s m args below meth c H locs 0 0 Q (F0 m (pc + 3) ls rest)) : W p l e (RM k) s m args below meth c H locs 0 0 Q (F0 m pc ls (.int v :: .ref (ad 0) :: rest)) :=
  va_put (D := G.1) (ci := 7) (v := .int v) (ty := .int) (C := RX8) (T := TX8) (N := 9) F.1 F.2.1 F.2.2.2.2.1 inGX8 tyX8 tyX8_ok nmX8 F.2.2.2.1 F.2.2.2.2.2.1 N.1 N.2.1 N.2.2 0 rfl rfl 7 (by decide) (F.2.2.2.2.1 _ hl) (fun _ h => h) rfl (by decide +kernel) rfl rfl (Nat.le_of_ble_eq_true rfl) hd (fun H locs hP hD hS => kk _ rfl H locs ⟨hP, hD, hS⟩)
theorem gx_0_fulls (F : FX p s m args c cc nL own G) (N : Now G s (XW G ad st ++ ex) H locs) (hl : Cond.fieldLink own idx RX8 (TX8 8).2.1 (TX8 8).2.2.1 ∈ goodT) (hd : decode cc pc = .ok (.getfield idx, 3)) (kk : W p l e (RM k) s m args below meth c H locs 0 0 Q (F0 m (pc + 3) ls (.int (st.1 2) :: rest))) : W p l e (RM k) s m args below meth c H locs 0 0 Q (F0 m pc ls (.ref (ad 0) :: rest)) :=
  va_get (D := G.1) (ci := 7) (C := RX8) (T := TX8) (N := 9) F.1 F.2.1 F.2.2.2.2.1 inGX8 F.2.2.2.1 F.2.2.2.2.2.1 N.1 0 rfl rfl 8 (by decide) (F.2.2.2.2.1 _ hl) (fun _ h => h) rfl hd kk
theorem px_0_fulls {v : Int32} (F : FX p s m args c cc nL own G) (N : Now G s (XW G ad st ++ ex) H locs) (hl : Cond.fieldLink own idx RX8 (TX8 8).2.1 (TX8 8).2.2.1 ∈ goodT) (hd : decode cc pc = .ok (.putfield idx, 3)) (kk : ∀ st1 : ST, st1 = sI st 2 v → ∀ (H : Heap) (locs : List Loc), Now G s (XW G ad st1 ++ ex) H locs → W p l e (RM k) s m args below meth c H locs 0 0 Q (F0 m (pc + 3) ls rest)) : W p l e (RM k) s m args below meth c H locs 0 0 Q (F0 m pc ls (.int v :: .ref (ad 0) :: rest)) :=
  va_put (D := G.1) (ci := 7) (v := .int v) (ty := .int) (C := RX8) (T := TX8) (N := 9) F.1 F.2.1 F.2.2.2.2.1 inGX8 tyX8 tyX8_ok nmX8 F.2.2.2.1 F.2.2.2.2.2.1 N.1 N.2.1 N.2.2 0 rfl rfl 8 (by decide) (F.2.2.2.2.1 _ hl) (fun _ h => h) rfl (by decide +kernel) rfl rfl (Nat.le_of_ble_eq_true rfl) hd (fun H locs hP hD hS => kk _ rfl H locs ⟨hP, hD, hS⟩)
theorem gx_1_bytes (F : FX p s m args c cc nL own G) (N : Now G s (XW G ad st ++ ex) H locs) (hl : Cond.fieldLink own idx RX6 (TX6 0).2.1 (TX6 0).2.2.1 ∈ goodT) (hd : decode cc pc = .ok (.getfield idx, 3)) (kk : W p l e (RM k) s m args below meth c H locs 0 0 Q (F0 m (pc + 3) ls (.ref (ad 7) :: rest))) : W p l e (RM k) s m args below meth c H locs 0 0 Q (F0 m pc ls (.ref (ad 1) :: rest)) :=
  va_get (D := G.1) (ci := 5) (C := RX6) (T := TX6) (N := 2) F.1 F.2.1 F.2.2.2.2.1 inGX6 F.2.2.2.1 F.2.2.2.2.2.1 N.1 1 rfl rfl 0 (by decide) (F.2.2.2.2.1 _ hl) (fun _ h => h) rfl hd kk
theorem gx_1_length (F : FX p s m args c cc nL own G) (N : Now G s (XW G ad st ++ ex) H locs) (hl : Cond.fieldLink own idx RX6 (TX6 1).2.1 (TX6 1).2.2.1 ∈ goodT) (hd : decode cc pc = .ok (.getfield idx, 3)) (kk : W p l e (RM k) s m args below meth c H locs 0 0 Q (F0 m (pc + 3) ls (.int (st.1 3) :: rest))) : W p l e (RM k) s m args below meth c H locs 0 0 Q (F0 m pc ls (.ref (ad 1) :: rest)) :=
  va_get (D := G.1) (ci := 5) (C := RX6) (T := TX6) (N := 2) F.1 F.2.1 F.2.2.2.2.1 inGX6 F.2.2.2.1 F.2.2.2.2.2.1 N.1 1 rfl rfl 1 (by decide) (F.2.2.2.2.1 _ hl) (fun _ h => h) rfl hd kk
theorem px_1_length {v : Int32} (F : FX p s m args c cc nL own G) (N : Now G s (XW G ad st ++ ex) H locs) (hl : Cond.fieldLink own idx RX6 (TX6 1).2.1 (TX6 1).2.2.1 ∈ goodT) (hd : decode cc pc = .ok (.putfield idx, 3)) (kk : ∀ st1 : ST, st1 = sI st 3 v → ∀ (H : Heap) (locs : List Loc), Now G s (XW G ad st1 ++ ex) H locs → W p l e (RM k) s m args below meth c H locs 0 0 Q (F0 m (pc + 3) ls rest)) : W p l e (RM k) s m args below meth c H locs 0 0 Q (F0 m pc ls (.int v :: .ref (ad 1) :: rest)) :=
  va_put (D := G.1) (ci := 5) (v := .int v) (ty := .int) (C := RX6) (T := TX6) (N := 2) F.1 F.2.1 F.2.2.2.2.1 inGX6 tyX6 tyX6_ok nmX6 F.2.2.2.1 F.2.2.2.2.2.1 N.1 N.2.1 N.2.2 1 rfl rfl 1 (by decide) (F.2.2.2.2.1 _ hl) (fun _ h => h) rfl (by decide +kernel) rfl rfl (Nat.le_of_ble_eq_true rfl) hd (fun H locs hP hD hS => kk _ rfl H locs ⟨hP, hD, hS⟩)
theorem gx_2_text (F : FX p s m args c cc nL own G) (N : Now G s (XW G ad st ++ ex) H locs) (hl : Cond.fieldLink own idx RX3 (TX3 0).2.1 (TX3 0).2.2.1 ∈ goodT) (hd : decode cc pc = .ok (.getfield idx, 3)) (kk : W p l e (RM k) s m args below meth c H locs 0 0 Q (F0 m (pc + 3) ls (.ref (ad 1) :: rest))) : W p l e (RM k) s m args below meth c H locs 0 0 Q (F0 m pc ls (.ref (ad 2) :: rest)) :=
  va_get (D := G.1) (ci := 3) (C := RX3) (T := TX3) (N := 3) F.1 F.2.1 F.2.2.2.2.1 inGX3 F.2.2.2.1 F.2.2.2.2.2.1 N.1 2 rfl rfl 0 (by decide) (F.2.2.2.2.1 _ hl) (fun _ h => h) rfl hd kk
theorem gx_2_found (F : FX p s m args c cc nL own G) (N : Now G s (XW G ad st ++ ex) H locs) (hl : Cond.fieldLink own idx RX3 (TX3 1).2.1 (TX3 1).2.2.1 ∈ goodT) (hd : decode cc pc = .ok (.getfield idx, 3)) (kk : W p l e (RM k) s m args below meth c H locs 0 0 Q (F0 m (pc + 3) ls (.ref (ad 8) :: rest))) : W p l e (RM k) s m args below meth c H locs 0 0 Q (F0 m pc ls (.ref (ad 2) :: rest)) :=
  va_get (D := G.1) (ci := 3) (C := RX3) (T := TX3) (N := 3) F.1 F.2.1 F.2.2.2.2.1 inGX3 F.2.2.2.1 F.2.2.2.2.2.1 N.1 2 rfl rfl 1 (by decide) (F.2.2.2.2.1 _ hl) (fun _ h => h) rfl hd kk
theorem gx_2_place (F : FX p s m args c cc nL own G) (N : Now G s (XW G ad st ++ ex) H locs) (hl : Cond.fieldLink own idx RX3 (TX3 2).2.1 (TX3 2).2.2.1 ∈ goodT) (hd : decode cc pc = .ok (.getfield idx, 3)) (kk : W p l e (RM k) s m args below meth c H locs 0 0 Q (F0 m (pc + 3) ls (.int (st.1 4) :: rest))) : W p l e (RM k) s m args below meth c H locs 0 0 Q (F0 m pc ls (.ref (ad 2) :: rest)) :=
  va_get (D := G.1) (ci := 3) (C := RX3) (T := TX3) (N := 3) F.1 F.2.1 F.2.2.2.2.1 inGX3 F.2.2.2.1 F.2.2.2.2.2.1 N.1 2 rfl rfl 2 (by decide) (F.2.2.2.2.1 _ hl) (fun _ h => h) rfl hd kk
theorem px_2_place {v : Int32} (F : FX p s m args c cc nL own G) (N : Now G s (XW G ad st ++ ex) H locs) (hl : Cond.fieldLink own idx RX3 (TX3 2).2.1 (TX3 2).2.2.1 ∈ goodT) (hd : decode cc pc = .ok (.putfield idx, 3)) (kk : ∀ st1 : ST, st1 = sI st 4 v → ∀ (H : Heap) (locs : List Loc), Now G s (XW G ad st1 ++ ex) H locs → W p l e (RM k) s m args below meth c H locs 0 0 Q (F0 m (pc + 3) ls rest)) : W p l e (RM k) s m args below meth c H locs 0 0 Q (F0 m pc ls (.int v :: .ref (ad 2) :: rest)) :=
  va_put (D := G.1) (ci := 3) (v := .int v) (ty := .int) (C := RX3) (T := TX3) (N := 3) F.1 F.2.1 F.2.2.2.2.1 inGX3 tyX3 tyX3_ok nmX3 F.2.2.2.1 F.2.2.2.2.2.1 N.1 N.2.1 N.2.2 2 rfl rfl 2 (by decide) (F.2.2.2.2.1 _ hl) (fun _ h => h) rfl (by decide +kernel) rfl rfl (Nat.le_of_ble_eq_true rfl) hd (fun H locs hP hD hS => kk _ rfl H locs ⟨hP, hD, hS⟩)
theorem gx_3_slots (F : FX p s m args c cc nL own G) (N : Now G s (XW G ad st ++ ex) H locs) (hl : Cond.fieldLink own idx RX4 (TX4 0).2.1 (TX4 0).2.2.1 ∈ goodT) (hd : decode cc pc = .ok (.getfield idx, 3)) (kk : W p l e (RM k) s m args below meth c H locs 0 0 Q (F0 m (pc + 3) ls (.ref (ad 9) :: rest))) : W p l e (RM k) s m args below meth c H locs 0 0 Q (F0 m pc ls (.ref (ad 3) :: rest)) :=
  va_get (D := G.1) (ci := 4) (C := RX4) (T := TX4) (N := 2) F.1 F.2.1 F.2.2.2.2.1 inGX4 F.2.2.2.1 F.2.2.2.2.2.1 N.1 3 rfl rfl 0 (by decide) (F.2.2.2.2.1 _ hl) (fun _ h => h) rfl hd kk
theorem gx_3_ahead (F : FX p s m args c cc nL own G) (N : Now G s (XW G ad st ++ ex) H locs) (hl : Cond.fieldLink own idx RX4 (TX4 1).2.1 (TX4 1).2.2.1 ∈ goodT) (hd : decode cc pc = .ok (.getfield idx, 3)) (kk : W p l e (RM k) s m args below meth c H locs 0 0 Q (F0 m (pc + 3) ls (.ref (ad 10) :: rest))) : W p l e (RM k) s m args below meth c H locs 0 0 Q (F0 m pc ls (.ref (ad 3) :: rest)) :=
  va_get (D := G.1) (ci := 4) (C := RX4) (T := TX4) (N := 2) F.1 F.2.1 F.2.2.2.2.1 inGX4 F.2.2.2.1 F.2.2.2.2.2.1 N.1 3 rfl rfl 1 (by decide) (F.2.2.2.2.1 _ hl) (fun _ h => h) rfl hd kk
theorem gx_4_states (F : FX p s m args c cc nL own G) (N : Now G s (XW G ad st ++ ex) H locs) (hl : Cond.fieldLink own idx RX2 (TX2 0).2.1 (TX2 0).2.2.1 ∈ goodT) (hd : decode cc pc = .ok (.getfield idx, 3)) (kk : W p l e (RM k) s m args below meth c H locs 0 0 Q (F0 m (pc + 3) ls (.ref (ad 11) :: rest))) : W p l e (RM k) s m args below meth c H locs 0 0 Q (F0 m pc ls (.ref (ad 4) :: rest)) :=
  va_get (D := G.1) (ci := 2) (C := RX2) (T := TX2) (N := 3) F.1 F.2.1 F.2.2.2.2.1 inGX2 F.2.2.2.1 F.2.2.2.2.2.1 N.1 4 rfl rfl 0 (by decide) (F.2.2.2.2.1 _ hl) (fun _ h => h) rfl hd kk
theorem gx_4_next (F : FX p s m args c cc nL own G) (N : Now G s (XW G ad st ++ ex) H locs) (hl : Cond.fieldLink own idx RX2 (TX2 1).2.1 (TX2 1).2.2.1 ∈ goodT) (hd : decode cc pc = .ok (.getfield idx, 3)) (kk : W p l e (RM k) s m args below meth c H locs 0 0 Q (F0 m (pc + 3) ls (.int (st.1 5) :: rest))) : W p l e (RM k) s m args below meth c H locs 0 0 Q (F0 m pc ls (.ref (ad 4) :: rest)) :=
  va_get (D := G.1) (ci := 2) (C := RX2) (T := TX2) (N := 3) F.1 F.2.1 F.2.2.2.2.1 inGX2 F.2.2.2.1 F.2.2.2.2.2.1 N.1 4 rfl rfl 1 (by decide) (F.2.2.2.2.1 _ hl) (fun _ h => h) rfl hd kk
theorem px_4_next {v : Int32} (F : FX p s m args c cc nL own G) (N : Now G s (XW G ad st ++ ex) H locs) (hl : Cond.fieldLink own idx RX2 (TX2 1).2.1 (TX2 1).2.2.1 ∈ goodT) (hd : decode cc pc = .ok (.putfield idx, 3)) (kk : ∀ st1 : ST, st1 = sI st 5 v → ∀ (H : Heap) (locs : List Loc), Now G s (XW G ad st1 ++ ex) H locs → W p l e (RM k) s m args below meth c H locs 0 0 Q (F0 m (pc + 3) ls rest)) : W p l e (RM k) s m args below meth c H locs 0 0 Q (F0 m pc ls (.int v :: .ref (ad 4) :: rest)) :=
  va_put (D := G.1) (ci := 2) (v := .int v) (ty := .int) (C := RX2) (T := TX2) (N := 3) F.1 F.2.1 F.2.2.2.2.1 inGX2 tyX2 tyX2_ok nmX2 F.2.2.2.1 F.2.2.2.2.2.1 N.1 N.2.1 N.2.2 4 rfl rfl 1 (by decide) (F.2.2.2.2.1 _ hl) (fun _ h => h) rfl (by decide +kernel) rfl rfl (Nat.le_of_ble_eq_true rfl) hd (fun H locs hP hD hS => kk _ rfl H locs ⟨hP, hD, hS⟩)
theorem gx_4_size (F : FX p s m args c cc nL own G) (N : Now G s (XW G ad st ++ ex) H locs) (hl : Cond.fieldLink own idx RX2 (TX2 2).2.1 (TX2 2).2.2.1 ∈ goodT) (hd : decode cc pc = .ok (.getfield idx, 3)) (kk : W p l e (RM k) s m args below meth c H locs 0 0 Q (F0 m (pc + 3) ls (.int (st.1 6) :: rest))) : W p l e (RM k) s m args below meth c H locs 0 0 Q (F0 m pc ls (.ref (ad 4) :: rest)) :=
  va_get (D := G.1) (ci := 2) (C := RX2) (T := TX2) (N := 3) F.1 F.2.1 F.2.2.2.2.1 inGX2 F.2.2.2.1 F.2.2.2.2.2.1 N.1 4 rfl rfl 2 (by decide) (F.2.2.2.2.1 _ hl) (fun _ h => h) rfl hd kk
theorem px_4_size {v : Int32} (F : FX p s m args c cc nL own G) (N : Now G s (XW G ad st ++ ex) H locs) (hl : Cond.fieldLink own idx RX2 (TX2 2).2.1 (TX2 2).2.2.1 ∈ goodT) (hd : decode cc pc = .ok (.putfield idx, 3)) (kk : ∀ st1 : ST, st1 = sI st 6 v → ∀ (H : Heap) (locs : List Loc), Now G s (XW G ad st1 ++ ex) H locs → W p l e (RM k) s m args below meth c H locs 0 0 Q (F0 m (pc + 3) ls rest)) : W p l e (RM k) s m args below meth c H locs 0 0 Q (F0 m pc ls (.int v :: .ref (ad 4) :: rest)) :=
  va_put (D := G.1) (ci := 2) (v := .int v) (ty := .int) (C := RX2) (T := TX2) (N := 3) F.1 F.2.1 F.2.2.2.2.1 inGX2 tyX2 tyX2_ok nmX2 F.2.2.2.1 F.2.2.2.2.2.1 N.1 N.2.1 N.2.2 4 rfl rfl 2 (by decide) (F.2.2.2.2.1 _ hl) (fun _ h => h) rfl (by decide +kernel) rfl rfl (Nat.le_of_ble_eq_true rfl) hd (fun H locs hP hD hS => kk _ rfl H locs ⟨hP, hD, hS⟩)
theorem gx_5_sheet (F : FX p s m args c cc nL own G) (N : Now G s (XW G ad st ++ ex) H locs) (hl : Cond.fieldLink own idx RX7 (TX7 0).2.1 (TX7 0).2.2.1 ∈ goodT) (hd : decode cc pc = .ok (.getfield idx, 3)) (kk : W p l e (RM k) s m args below meth c H locs 0 0 Q (F0 m (pc + 3) ls (.ref (ad 3) :: rest))) : W p l e (RM k) s m args below meth c H locs 0 0 Q (F0 m pc ls (.ref (ad 5) :: rest)) :=
  va_get (D := G.1) (ci := 6) (C := RX7) (T := TX7) (N := 9) F.1 F.2.1 F.2.2.2.2.1 inGX7 F.2.2.2.1 F.2.2.2.2.2.1 N.1 5 rfl rfl 0 (by decide) (F.2.2.2.2.1 _ hl) (fun _ h => h) rfl hd kk
theorem gx_5_faults (F : FX p s m args c cc nL own G) (N : Now G s (XW G ad st ++ ex) H locs) (hl : Cond.fieldLink own idx RX7 (TX7 1).2.1 (TX7 1).2.2.1 ∈ goodT) (hd : decode cc pc = .ok (.getfield idx, 3)) (kk : W p l e (RM k) s m args below meth c H locs 0 0 Q (F0 m (pc + 3) ls (.ref (ad 12) :: rest))) : W p l e (RM k) s m args below meth c H locs 0 0 Q (F0 m pc ls (.ref (ad 5) :: rest)) :=
  va_get (D := G.1) (ci := 6) (C := RX7) (T := TX7) (N := 9) F.1 F.2.1 F.2.2.2.2.1 inGX7 F.2.2.2.1 F.2.2.2.2.2.1 N.1 5 rfl rfl 1 (by decide) (F.2.2.2.2.1 _ hl) (fun _ h => h) rfl hd kk
theorem gx_5_sums (F : FX p s m args c cc nL own G) (N : Now G s (XW G ad st ++ ex) H locs) (hl : Cond.fieldLink own idx RX7 (TX7 2).2.1 (TX7 2).2.2.1 ∈ goodT) (hd : decode cc pc = .ok (.getfield idx, 3)) (kk : W p l e (RM k) s m args below meth c H locs 0 0 Q (F0 m (pc + 3) ls (.ref (ad 13) :: rest))) : W p l e (RM k) s m args below meth c H locs 0 0 Q (F0 m pc ls (.ref (ad 5) :: rest)) :=
  va_get (D := G.1) (ci := 6) (C := RX7) (T := TX7) (N := 9) F.1 F.2.1 F.2.2.2.2.1 inGX7 F.2.2.2.1 F.2.2.2.2.2.1 N.1 5 rfl rfl 2 (by decide) (F.2.2.2.2.1 _ hl) (fun _ h => h) rfl hd kk
theorem gx_5_faultCells (F : FX p s m args c cc nL own G) (N : Now G s (XW G ad st ++ ex) H locs) (hl : Cond.fieldLink own idx RX7 (TX7 3).2.1 (TX7 3).2.2.1 ∈ goodT) (hd : decode cc pc = .ok (.getfield idx, 3)) (kk : W p l e (RM k) s m args below meth c H locs 0 0 Q (F0 m (pc + 3) ls (.ref (ad 14) :: rest))) : W p l e (RM k) s m args below meth c H locs 0 0 Q (F0 m pc ls (.ref (ad 5) :: rest)) :=
  va_get (D := G.1) (ci := 6) (C := RX7) (T := TX7) (N := 9) F.1 F.2.1 F.2.2.2.2.1 inGX7 F.2.2.2.1 F.2.2.2.2.2.1 N.1 5 rfl rfl 3 (by decide) (F.2.2.2.2.1 _ hl) (fun _ h => h) rfl hd kk
theorem gx_5_faultDepths (F : FX p s m args c cc nL own G) (N : Now G s (XW G ad st ++ ex) H locs) (hl : Cond.fieldLink own idx RX7 (TX7 4).2.1 (TX7 4).2.2.1 ∈ goodT) (hd : decode cc pc = .ok (.getfield idx, 3)) (kk : W p l e (RM k) s m args below meth c H locs 0 0 Q (F0 m (pc + 3) ls (.ref (ad 15) :: rest))) : W p l e (RM k) s m args below meth c H locs 0 0 Q (F0 m pc ls (.ref (ad 5) :: rest)) :=
  va_get (D := G.1) (ci := 6) (C := RX7) (T := TX7) (N := 9) F.1 F.2.1 F.2.2.2.2.1 inGX7 F.2.2.2.1 F.2.2.2.2.2.1 N.1 5 rfl rfl 4 (by decide) (F.2.2.2.2.1 _ hl) (fun _ h => h) rfl hd kk
theorem gx_5_asked (F : FX p s m args c cc nL own G) (N : Now G s (XW G ad st ++ ex) H locs) (hl : Cond.fieldLink own idx RX7 (TX7 5).2.1 (TX7 5).2.2.1 ∈ goodT) (hd : decode cc pc = .ok (.getfield idx, 3)) (kk : W p l e (RM k) s m args below meth c H locs 0 0 Q (F0 m (pc + 3) ls (.ref (ad 16) :: rest))) : W p l e (RM k) s m args below meth c H locs 0 0 Q (F0 m pc ls (.ref (ad 5) :: rest)) :=
  va_get (D := G.1) (ci := 6) (C := RX7) (T := TX7) (N := 9) F.1 F.2.1 F.2.2.2.2.1 inGX7 F.2.2.2.1 F.2.2.2.2.2.1 N.1 5 rfl rfl 5 (by decide) (F.2.2.2.2.1 _ hl) (fun _ h => h) rfl hd kk
theorem gx_5_met (F : FX p s m args c cc nL own G) (N : Now G s (XW G ad st ++ ex) H locs) (hl : Cond.fieldLink own idx RX7 (TX7 6).2.1 (TX7 6).2.2.1 ∈ goodT) (hd : decode cc pc = .ok (.getfield idx, 3)) (kk : W p l e (RM k) s m args below meth c H locs 0 0 Q (F0 m (pc + 3) ls (.int (st.1 7) :: rest))) : W p l e (RM k) s m args below meth c H locs 0 0 Q (F0 m pc ls (.ref (ad 5) :: rest)) :=
  va_get (D := G.1) (ci := 6) (C := RX7) (T := TX7) (N := 9) F.1 F.2.1 F.2.2.2.2.1 inGX7 F.2.2.2.1 F.2.2.2.2.2.1 N.1 5 rfl rfl 6 (by decide) (F.2.2.2.2.1 _ hl) (fun _ h => h) rfl hd kk
theorem px_5_met {v : Int32} (F : FX p s m args c cc nL own G) (N : Now G s (XW G ad st ++ ex) H locs) (hl : Cond.fieldLink own idx RX7 (TX7 6).2.1 (TX7 6).2.2.1 ∈ goodT) (hd : decode cc pc = .ok (.putfield idx, 3)) (kk : ∀ st1 : ST, st1 = sI st 7 v → ∀ (H : Heap) (locs : List Loc), Now G s (XW G ad st1 ++ ex) H locs → W p l e (RM k) s m args below meth c H locs 0 0 Q (F0 m (pc + 3) ls rest)) : W p l e (RM k) s m args below meth c H locs 0 0 Q (F0 m pc ls (.int v :: .ref (ad 5) :: rest)) :=
  va_put (D := G.1) (ci := 6) (v := .int v) (ty := .int) (C := RX7) (T := TX7) (N := 9) F.1 F.2.1 F.2.2.2.2.1 inGX7 tyX7 tyX7_ok nmX7 F.2.2.2.1 F.2.2.2.2.2.1 N.1 N.2.1 N.2.2 5 rfl rfl 6 (by decide) (F.2.2.2.2.1 _ hl) (fun _ h => h) rfl (by decide +kernel) rfl rfl (Nat.le_of_ble_eq_true rfl) hd (fun H locs hP hD hS => kk _ rfl H locs ⟨hP, hD, hS⟩)
theorem gx_5_metAt (F : FX p s m args c cc nL own G) (N : Now G s (XW G ad st ++ ex) H locs) (hl : Cond.fieldLink own idx RX7 (TX7 7).2.1 (TX7 7).2.2.1 ∈ goodT) (hd : decode cc pc = .ok (.getfield idx, 3)) (kk : W p l e (RM k) s m args below meth c H locs 0 0 Q (F0 m (pc + 3) ls (.int (st.1 8) :: rest))) : W p l e (RM k) s m args below meth c H locs 0 0 Q (F0 m pc ls (.ref (ad 5) :: rest)) :=
  va_get (D := G.1) (ci := 6) (C := RX7) (T := TX7) (N := 9) F.1 F.2.1 F.2.2.2.2.1 inGX7 F.2.2.2.1 F.2.2.2.2.2.1 N.1 5 rfl rfl 7 (by decide) (F.2.2.2.2.1 _ hl) (fun _ h => h) rfl hd kk
theorem px_5_metAt {v : Int32} (F : FX p s m args c cc nL own G) (N : Now G s (XW G ad st ++ ex) H locs) (hl : Cond.fieldLink own idx RX7 (TX7 7).2.1 (TX7 7).2.2.1 ∈ goodT) (hd : decode cc pc = .ok (.putfield idx, 3)) (kk : ∀ st1 : ST, st1 = sI st 8 v → ∀ (H : Heap) (locs : List Loc), Now G s (XW G ad st1 ++ ex) H locs → W p l e (RM k) s m args below meth c H locs 0 0 Q (F0 m (pc + 3) ls rest)) : W p l e (RM k) s m args below meth c H locs 0 0 Q (F0 m pc ls (.int v :: .ref (ad 5) :: rest)) :=
  va_put (D := G.1) (ci := 6) (v := .int v) (ty := .int) (C := RX7) (T := TX7) (N := 9) F.1 F.2.1 F.2.2.2.2.1 inGX7 tyX7 tyX7_ok nmX7 F.2.2.2.1 F.2.2.2.2.2.1 N.1 N.2.1 N.2.2 5 rfl rfl 7 (by decide) (F.2.2.2.2.1 _ hl) (fun _ h => h) rfl (by decide +kernel) rfl rfl (Nat.le_of_ble_eq_true rfl) hd (fun H locs hP hD hS => kk _ rfl H locs ⟨hP, hD, hS⟩)
theorem gx_5_metDepth (F : FX p s m args c cc nL own G) (N : Now G s (XW G ad st ++ ex) H locs) (hl : Cond.fieldLink own idx RX7 (TX7 8).2.1 (TX7 8).2.2.1 ∈ goodT) (hd : decode cc pc = .ok (.getfield idx, 3)) (kk : W p l e (RM k) s m args below meth c H locs 0 0 Q (F0 m (pc + 3) ls (.int (st.1 9) :: rest))) : W p l e (RM k) s m args below meth c H locs 0 0 Q (F0 m pc ls (.ref (ad 5) :: rest)) :=
  va_get (D := G.1) (ci := 6) (C := RX7) (T := TX7) (N := 9) F.1 F.2.1 F.2.2.2.2.1 inGX7 F.2.2.2.1 F.2.2.2.2.2.1 N.1 5 rfl rfl 8 (by decide) (F.2.2.2.2.1 _ hl) (fun _ h => h) rfl hd kk
theorem px_5_metDepth {v : Int32} (F : FX p s m args c cc nL own G) (N : Now G s (XW G ad st ++ ex) H locs) (hl : Cond.fieldLink own idx RX7 (TX7 8).2.1 (TX7 8).2.2.1 ∈ goodT) (hd : decode cc pc = .ok (.putfield idx, 3)) (kk : ∀ st1 : ST, st1 = sI st 9 v → ∀ (H : Heap) (locs : List Loc), Now G s (XW G ad st1 ++ ex) H locs → W p l e (RM k) s m args below meth c H locs 0 0 Q (F0 m (pc + 3) ls rest)) : W p l e (RM k) s m args below meth c H locs 0 0 Q (F0 m pc ls (.int v :: .ref (ad 5) :: rest)) :=
  va_put (D := G.1) (ci := 6) (v := .int v) (ty := .int) (C := RX7) (T := TX7) (N := 9) F.1 F.2.1 F.2.2.2.2.1 inGX7 tyX7 tyX7_ok nmX7 F.2.2.2.1 F.2.2.2.2.2.1 N.1 N.2.1 N.2.2 5 rfl rfl 8 (by decide) (F.2.2.2.2.1 _ hl) (fun _ h => h) rfl (by decide +kernel) rfl rfl (Nat.le_of_ble_eq_true rfl) hd (fun H locs hP hD hS => kk _ rfl H locs ⟨hP, hD, hS⟩)
theorem gx_6_letters (F : FX p s m args c cc nL own G) (N : Now G s (XW G ad st ++ ex) H locs) (hl : Cond.fieldLink own idx RX1 (TX1 0).2.1 (TX1 0).2.2.1 ∈ goodT) (hd : decode cc pc = .ok (.getfield idx, 3)) (kk : W p l e (RM k) s m args below meth c H locs 0 0 Q (F0 m (pc + 3) ls (.ref (ad 17) :: rest))) : W p l e (RM k) s m args below meth c H locs 0 0 Q (F0 m pc ls (.ref (ad 6) :: rest)) :=
  va_get (D := G.1) (ci := 1) (C := RX1) (T := TX1) (N := 2) F.1 F.2.1 F.2.2.2.2.1 inGX1 F.2.2.2.1 F.2.2.2.2.2.1 N.1 6 rfl rfl 0 (by decide) (F.2.2.2.2.1 _ hl) (fun _ h => h) rfl hd kk
theorem gx_6_length (F : FX p s m args c cc nL own G) (N : Now G s (XW G ad st ++ ex) H locs) (hl : Cond.fieldLink own idx RX1 (TX1 1).2.1 (TX1 1).2.2.1 ∈ goodT) (hd : decode cc pc = .ok (.getfield idx, 3)) (kk : W p l e (RM k) s m args below meth c H locs 0 0 Q (F0 m (pc + 3) ls (.int (st.1 10) :: rest))) : W p l e (RM k) s m args below meth c H locs 0 0 Q (F0 m pc ls (.ref (ad 6) :: rest)) :=
  va_get (D := G.1) (ci := 1) (C := RX1) (T := TX1) (N := 2) F.1 F.2.1 F.2.2.2.2.1 inGX1 F.2.2.2.1 F.2.2.2.2.2.1 N.1 6 rfl rfl 1 (by decide) (F.2.2.2.2.1 _ hl) (fun _ h => h) rfl hd kk
theorem px_6_length {v : Int32} (F : FX p s m args c cc nL own G) (N : Now G s (XW G ad st ++ ex) H locs) (hl : Cond.fieldLink own idx RX1 (TX1 1).2.1 (TX1 1).2.2.1 ∈ goodT) (hd : decode cc pc = .ok (.putfield idx, 3)) (kk : ∀ st1 : ST, st1 = sI st 10 v → ∀ (H : Heap) (locs : List Loc), Now G s (XW G ad st1 ++ ex) H locs → W p l e (RM k) s m args below meth c H locs 0 0 Q (F0 m (pc + 3) ls rest)) : W p l e (RM k) s m args below meth c H locs 0 0 Q (F0 m pc ls (.int v :: .ref (ad 6) :: rest)) :=
  va_put (D := G.1) (ci := 1) (v := .int v) (ty := .int) (C := RX1) (T := TX1) (N := 2) F.1 F.2.1 F.2.2.2.2.1 inGX1 tyX1 tyX1_ok nmX1 F.2.2.2.1 F.2.2.2.2.2.1 N.1 N.2.1 N.2.2 6 rfl rfl 1 (by decide) (F.2.2.2.2.1 _ hl) (fun _ h => h) rfl (by decide +kernel) rfl rfl (Nat.le_of_ble_eq_true rfl) hd (fun H locs hP hD hS => kk _ rfl H locs ⟨hP, hD, hS⟩)
theorem ax_0 {i : Int32} (F : FX p s m args c cc nL own G) (N : Now G s (XW G ad st ++ ex) H locs) (hi : vp_in i 60) (hd : decode cc pc = .ok (.iaload, 1)) (kk : W p l e (RM k) s m args below meth c H locs 0 0 Q (F0 m (pc + 1) ls (.int (st.2.1 0 i.toNatClampNeg) :: rest))) : W p l e (RM k) s m args below meth c H locs 0 0 Q (F0 m pc ls (.int i :: .ref (ad 7) :: rest)) :=
  va_iald F.1 F.2.1 F.2.2.2.2.2.1 N.1 7 0 rfl rfl hi hd kk
theorem axN_0 {j : Nat} (F : FX p s m args c cc nL own G) (N : Now G s (XW G ad st ++ ex) H locs) (hj : j < 60) (hd : decode cc pc = .ok (.iaload, 1)) (kk : W p l e (RM k) s m args below meth c H locs 0 0 Q (F0 m (pc + 1) ls (.int (st.2.1 0 j) :: rest))) : W p l e (RM k) s m args below meth c H locs 0 0 Q (F0 m pc ls (.int (nI j) :: .ref (ad 7) :: rest)) :=
  ax_0 F N (vp_in_nI hj (by decide)) hd (by rw [nI_clamp (show j < 2 ^ 31 by omega)]; exact kk)
theorem sx_0 {i v : Int32} (F : FX p s m args c cc nL own G) (N : Now G s (XW G ad st ++ ex) H locs) (hi : vp_in i 60) (hd : decode cc pc = .ok (.iastore, 1)) (kk : ∀ st1 : ST, st1 = sA st 0 (upd (st.2.1 0) i.toNatClampNeg v) → ∀ (H : Heap) (locs : List Loc), Now G s (XW G ad st1 ++ ex) H locs → W p l e (RM k) s m args below meth c H locs 0 0 Q (F0 m (pc + 1) ls rest)) : W p l e (RM k) s m args below meth c H locs 0 0 Q (F0 m pc ls (.int v :: .int i :: .ref (ad 7) :: rest)) :=
  va_iast F.1 F.2.1 F.2.2.2.2.2.1 N.1 N.2.1 N.2.2 7 0 rfl rfl hi hd (fun H locs hP hD hS => kk _ rfl H locs ⟨hP, hD, hS⟩)
theorem sxN_0 {j : Nat} {v : Int32} (F : FX p s m args c cc nL own G) (N : Now G s (XW G ad st ++ ex) H locs) (hj : j < 60) (hd : decode cc pc = .ok (.iastore, 1)) (kk : ∀ st1 : ST, st1 = sA st 0 (upd (st.2.1 0) j v) → ∀ (H : Heap) (locs : List Loc), Now G s (XW G ad st1 ++ ex) H locs → W p l e (RM k) s m args below meth c H locs 0 0 Q (F0 m (pc + 1) ls rest)) : W p l e (RM k) s m args below meth c H locs 0 0 Q (F0 m pc ls (.int v :: .int (nI j) :: .ref (ad 7) :: rest)) :=
  sx_0 F N (vp_in_nI hj (by decide)) hd (by rw [nI_clamp (show j < 2 ^ 31 by omega)]; exact kk)
theorem ax_1 {i : Int32} (F : FX p s m args c cc nL own G) (N : Now G s (XW G ad st ++ ex) H locs) (hi : vp_in i 4) (hd : decode cc pc = .ok (.iaload, 1)) (kk : W p l e (RM k) s m args below meth c H locs 0 0 Q (F0 m (pc + 1) ls (.int (st.2.1 1 i.toNatClampNeg) :: rest))) : W p l e (RM k) s m args below meth c H locs 0 0 Q (F0 m pc ls (.int i :: .ref (ad 8) :: rest)) :=
  va_iald F.1 F.2.1 F.2.2.2.2.2.1 N.1 8 0 rfl rfl hi hd kk
theorem axN_1 {j : Nat} (F : FX p s m args c cc nL own G) (N : Now G s (XW G ad st ++ ex) H locs) (hj : j < 4) (hd : decode cc pc = .ok (.iaload, 1)) (kk : W p l e (RM k) s m args below meth c H locs 0 0 Q (F0 m (pc + 1) ls (.int (st.2.1 1 j) :: rest))) : W p l e (RM k) s m args below meth c H locs 0 0 Q (F0 m pc ls (.int (nI j) :: .ref (ad 8) :: rest)) :=
  ax_1 F N (vp_in_nI hj (by decide)) hd (by rw [nI_clamp (show j < 2 ^ 31 by omega)]; exact kk)
theorem sx_1 {i v : Int32} (F : FX p s m args c cc nL own G) (N : Now G s (XW G ad st ++ ex) H locs) (hi : vp_in i 4) (hd : decode cc pc = .ok (.iastore, 1)) (kk : ∀ st1 : ST, st1 = sA st 1 (upd (st.2.1 1) i.toNatClampNeg v) → ∀ (H : Heap) (locs : List Loc), Now G s (XW G ad st1 ++ ex) H locs → W p l e (RM k) s m args below meth c H locs 0 0 Q (F0 m (pc + 1) ls rest)) : W p l e (RM k) s m args below meth c H locs 0 0 Q (F0 m pc ls (.int v :: .int i :: .ref (ad 8) :: rest)) :=
  va_iast F.1 F.2.1 F.2.2.2.2.2.1 N.1 N.2.1 N.2.2 8 0 rfl rfl hi hd (fun H locs hP hD hS => kk _ rfl H locs ⟨hP, hD, hS⟩)
theorem sxN_1 {j : Nat} {v : Int32} (F : FX p s m args c cc nL own G) (N : Now G s (XW G ad st ++ ex) H locs) (hj : j < 4) (hd : decode cc pc = .ok (.iastore, 1)) (kk : ∀ st1 : ST, st1 = sA st 1 (upd (st.2.1 1) j v) → ∀ (H : Heap) (locs : List Loc), Now G s (XW G ad st1 ++ ex) H locs → W p l e (RM k) s m args below meth c H locs 0 0 Q (F0 m (pc + 1) ls rest)) : W p l e (RM k) s m args below meth c H locs 0 0 Q (F0 m pc ls (.int v :: .int (nI j) :: .ref (ad 8) :: rest)) :=
  sx_1 F N (vp_in_nI hj (by decide)) hd (by rw [nI_clamp (show j < 2 ^ 31 by omega)]; exact kk)
theorem ax_2 {i : Int32} (F : FX p s m args c cc nL own G) (N : Now G s (XW G ad st ++ ex) H locs) (hi : vp_in i 144) (hd : decode cc pc = .ok (.iaload, 1)) (kk : W p l e (RM k) s m args below meth c H locs 0 0 Q (F0 m (pc + 1) ls (.int (st.2.1 2 i.toNatClampNeg) :: rest))) : W p l e (RM k) s m args below meth c H locs 0 0 Q (F0 m pc ls (.int i :: .ref (ad 9) :: rest)) :=
  va_iald F.1 F.2.1 F.2.2.2.2.2.1 N.1 9 0 rfl rfl hi hd kk
theorem axN_2 {j : Nat} (F : FX p s m args c cc nL own G) (N : Now G s (XW G ad st ++ ex) H locs) (hj : j < 144) (hd : decode cc pc = .ok (.iaload, 1)) (kk : W p l e (RM k) s m args below meth c H locs 0 0 Q (F0 m (pc + 1) ls (.int (st.2.1 2 j) :: rest))) : W p l e (RM k) s m args below meth c H locs 0 0 Q (F0 m pc ls (.int (nI j) :: .ref (ad 9) :: rest)) :=
  ax_2 F N (vp_in_nI hj (by decide)) hd (by rw [nI_clamp (show j < 2 ^ 31 by omega)]; exact kk)
theorem sx_2 {i v : Int32} (F : FX p s m args c cc nL own G) (N : Now G s (XW G ad st ++ ex) H locs) (hi : vp_in i 144) (hd : decode cc pc = .ok (.iastore, 1)) (kk : ∀ st1 : ST, st1 = sA st 2 (upd (st.2.1 2) i.toNatClampNeg v) → ∀ (H : Heap) (locs : List Loc), Now G s (XW G ad st1 ++ ex) H locs → W p l e (RM k) s m args below meth c H locs 0 0 Q (F0 m (pc + 1) ls rest)) : W p l e (RM k) s m args below meth c H locs 0 0 Q (F0 m pc ls (.int v :: .int i :: .ref (ad 9) :: rest)) :=
  va_iast F.1 F.2.1 F.2.2.2.2.2.1 N.1 N.2.1 N.2.2 9 0 rfl rfl hi hd (fun H locs hP hD hS => kk _ rfl H locs ⟨hP, hD, hS⟩)
theorem sxN_2 {j : Nat} {v : Int32} (F : FX p s m args c cc nL own G) (N : Now G s (XW G ad st ++ ex) H locs) (hj : j < 144) (hd : decode cc pc = .ok (.iastore, 1)) (kk : ∀ st1 : ST, st1 = sA st 2 (upd (st.2.1 2) j v) → ∀ (H : Heap) (locs : List Loc), Now G s (XW G ad st1 ++ ex) H locs → W p l e (RM k) s m args below meth c H locs 0 0 Q (F0 m (pc + 1) ls rest)) : W p l e (RM k) s m args below meth c H locs 0 0 Q (F0 m pc ls (.int v :: .int (nI j) :: .ref (ad 9) :: rest)) :=
  sx_2 F N (vp_in_nI hj (by decide)) hd (by rw [nI_clamp (show j < 2 ^ 31 by omega)]; exact kk)
theorem ax_3 {i : Int32} (F : FX p s m args c cc nL own G) (N : Now G s (XW G ad st ++ ex) H locs) (hi : vp_in i 144) (hd : decode cc pc = .ok (.iaload, 1)) (kk : W p l e (RM k) s m args below meth c H locs 0 0 Q (F0 m (pc + 1) ls (.int (st.2.1 3 i.toNatClampNeg) :: rest))) : W p l e (RM k) s m args below meth c H locs 0 0 Q (F0 m pc ls (.int i :: .ref (ad 10) :: rest)) :=
  va_iald F.1 F.2.1 F.2.2.2.2.2.1 N.1 10 0 rfl rfl hi hd kk
theorem axN_3 {j : Nat} (F : FX p s m args c cc nL own G) (N : Now G s (XW G ad st ++ ex) H locs) (hj : j < 144) (hd : decode cc pc = .ok (.iaload, 1)) (kk : W p l e (RM k) s m args below meth c H locs 0 0 Q (F0 m (pc + 1) ls (.int (st.2.1 3 j) :: rest))) : W p l e (RM k) s m args below meth c H locs 0 0 Q (F0 m pc ls (.int (nI j) :: .ref (ad 10) :: rest)) :=
  ax_3 F N (vp_in_nI hj (by decide)) hd (by rw [nI_clamp (show j < 2 ^ 31 by omega)]; exact kk)
theorem sx_3 {i v : Int32} (F : FX p s m args c cc nL own G) (N : Now G s (XW G ad st ++ ex) H locs) (hi : vp_in i 144) (hd : decode cc pc = .ok (.iastore, 1)) (kk : ∀ st1 : ST, st1 = sA st 3 (upd (st.2.1 3) i.toNatClampNeg v) → ∀ (H : Heap) (locs : List Loc), Now G s (XW G ad st1 ++ ex) H locs → W p l e (RM k) s m args below meth c H locs 0 0 Q (F0 m (pc + 1) ls rest)) : W p l e (RM k) s m args below meth c H locs 0 0 Q (F0 m pc ls (.int v :: .int i :: .ref (ad 10) :: rest)) :=
  va_iast F.1 F.2.1 F.2.2.2.2.2.1 N.1 N.2.1 N.2.2 10 0 rfl rfl hi hd (fun H locs hP hD hS => kk _ rfl H locs ⟨hP, hD, hS⟩)
theorem sxN_3 {j : Nat} {v : Int32} (F : FX p s m args c cc nL own G) (N : Now G s (XW G ad st ++ ex) H locs) (hj : j < 144) (hd : decode cc pc = .ok (.iastore, 1)) (kk : ∀ st1 : ST, st1 = sA st 3 (upd (st.2.1 3) j v) → ∀ (H : Heap) (locs : List Loc), Now G s (XW G ad st1 ++ ex) H locs → W p l e (RM k) s m args below meth c H locs 0 0 Q (F0 m (pc + 1) ls rest)) : W p l e (RM k) s m args below meth c H locs 0 0 Q (F0 m pc ls (.int v :: .int (nI j) :: .ref (ad 10) :: rest)) :=
  sx_3 F N (vp_in_nI hj (by decide)) hd (by rw [nI_clamp (show j < 2 ^ 31 by omega)]; exact kk)
theorem ax_4 {i : Int32} (F : FX p s m args c cc nL own G) (N : Now G s (XW G ad st ++ ex) H locs) (hi : vp_in i 864) (hd : decode cc pc = .ok (.iaload, 1)) (kk : W p l e (RM k) s m args below meth c H locs 0 0 Q (F0 m (pc + 1) ls (.int (st.2.1 4 i.toNatClampNeg) :: rest))) : W p l e (RM k) s m args below meth c H locs 0 0 Q (F0 m pc ls (.int i :: .ref (ad 11) :: rest)) :=
  va_iald F.1 F.2.1 F.2.2.2.2.2.1 N.1 11 0 rfl rfl hi hd kk
theorem axN_4 {j : Nat} (F : FX p s m args c cc nL own G) (N : Now G s (XW G ad st ++ ex) H locs) (hj : j < 864) (hd : decode cc pc = .ok (.iaload, 1)) (kk : W p l e (RM k) s m args below meth c H locs 0 0 Q (F0 m (pc + 1) ls (.int (st.2.1 4 j) :: rest))) : W p l e (RM k) s m args below meth c H locs 0 0 Q (F0 m pc ls (.int (nI j) :: .ref (ad 11) :: rest)) :=
  ax_4 F N (vp_in_nI hj (by decide)) hd (by rw [nI_clamp (show j < 2 ^ 31 by omega)]; exact kk)
theorem sx_4 {i v : Int32} (F : FX p s m args c cc nL own G) (N : Now G s (XW G ad st ++ ex) H locs) (hi : vp_in i 864) (hd : decode cc pc = .ok (.iastore, 1)) (kk : ∀ st1 : ST, st1 = sA st 4 (upd (st.2.1 4) i.toNatClampNeg v) → ∀ (H : Heap) (locs : List Loc), Now G s (XW G ad st1 ++ ex) H locs → W p l e (RM k) s m args below meth c H locs 0 0 Q (F0 m (pc + 1) ls rest)) : W p l e (RM k) s m args below meth c H locs 0 0 Q (F0 m pc ls (.int v :: .int i :: .ref (ad 11) :: rest)) :=
  va_iast F.1 F.2.1 F.2.2.2.2.2.1 N.1 N.2.1 N.2.2 11 0 rfl rfl hi hd (fun H locs hP hD hS => kk _ rfl H locs ⟨hP, hD, hS⟩)
theorem sxN_4 {j : Nat} {v : Int32} (F : FX p s m args c cc nL own G) (N : Now G s (XW G ad st ++ ex) H locs) (hj : j < 864) (hd : decode cc pc = .ok (.iastore, 1)) (kk : ∀ st1 : ST, st1 = sA st 4 (upd (st.2.1 4) j v) → ∀ (H : Heap) (locs : List Loc), Now G s (XW G ad st1 ++ ex) H locs → W p l e (RM k) s m args below meth c H locs 0 0 Q (F0 m (pc + 1) ls rest)) : W p l e (RM k) s m args below meth c H locs 0 0 Q (F0 m pc ls (.int v :: .int (nI j) :: .ref (ad 11) :: rest)) :=
  sx_4 F N (vp_in_nI hj (by decide)) hd (by rw [nI_clamp (show j < 2 ^ 31 by omega)]; exact kk)
theorem ax_5 {i : Int32} (F : FX p s m args c cc nL own G) (N : Now G s (XW G ad st ++ ex) H locs) (hi : vp_in i 36) (hd : decode cc pc = .ok (.iaload, 1)) (kk : W p l e (RM k) s m args below meth c H locs 0 0 Q (F0 m (pc + 1) ls (.int (st.2.1 5 i.toNatClampNeg) :: rest))) : W p l e (RM k) s m args below meth c H locs 0 0 Q (F0 m pc ls (.int i :: .ref (ad 12) :: rest)) :=
  va_iald F.1 F.2.1 F.2.2.2.2.2.1 N.1 12 0 rfl rfl hi hd kk
theorem axN_5 {j : Nat} (F : FX p s m args c cc nL own G) (N : Now G s (XW G ad st ++ ex) H locs) (hj : j < 36) (hd : decode cc pc = .ok (.iaload, 1)) (kk : W p l e (RM k) s m args below meth c H locs 0 0 Q (F0 m (pc + 1) ls (.int (st.2.1 5 j) :: rest))) : W p l e (RM k) s m args below meth c H locs 0 0 Q (F0 m pc ls (.int (nI j) :: .ref (ad 12) :: rest)) :=
  ax_5 F N (vp_in_nI hj (by decide)) hd (by rw [nI_clamp (show j < 2 ^ 31 by omega)]; exact kk)
theorem sx_5 {i v : Int32} (F : FX p s m args c cc nL own G) (N : Now G s (XW G ad st ++ ex) H locs) (hi : vp_in i 36) (hd : decode cc pc = .ok (.iastore, 1)) (kk : ∀ st1 : ST, st1 = sA st 5 (upd (st.2.1 5) i.toNatClampNeg v) → ∀ (H : Heap) (locs : List Loc), Now G s (XW G ad st1 ++ ex) H locs → W p l e (RM k) s m args below meth c H locs 0 0 Q (F0 m (pc + 1) ls rest)) : W p l e (RM k) s m args below meth c H locs 0 0 Q (F0 m pc ls (.int v :: .int i :: .ref (ad 12) :: rest)) :=
  va_iast F.1 F.2.1 F.2.2.2.2.2.1 N.1 N.2.1 N.2.2 12 0 rfl rfl hi hd (fun H locs hP hD hS => kk _ rfl H locs ⟨hP, hD, hS⟩)
theorem sxN_5 {j : Nat} {v : Int32} (F : FX p s m args c cc nL own G) (N : Now G s (XW G ad st ++ ex) H locs) (hj : j < 36) (hd : decode cc pc = .ok (.iastore, 1)) (kk : ∀ st1 : ST, st1 = sA st 5 (upd (st.2.1 5) j v) → ∀ (H : Heap) (locs : List Loc), Now G s (XW G ad st1 ++ ex) H locs → W p l e (RM k) s m args below meth c H locs 0 0 Q (F0 m (pc + 1) ls rest)) : W p l e (RM k) s m args below meth c H locs 0 0 Q (F0 m pc ls (.int v :: .int (nI j) :: .ref (ad 12) :: rest)) :=
  sx_5 F N (vp_in_nI hj (by decide)) hd (by rw [nI_clamp (show j < 2 ^ 31 by omega)]; exact kk)
theorem ax_6 {i : Int32} (F : FX p s m args c cc nL own G) (N : Now G s (XW G ad st ++ ex) H locs) (hi : vp_in i 36) (hd : decode cc pc = .ok (.iaload, 1)) (kk : W p l e (RM k) s m args below meth c H locs 0 0 Q (F0 m (pc + 1) ls (.int (st.2.1 6 i.toNatClampNeg) :: rest))) : W p l e (RM k) s m args below meth c H locs 0 0 Q (F0 m pc ls (.int i :: .ref (ad 13) :: rest)) :=
  va_iald F.1 F.2.1 F.2.2.2.2.2.1 N.1 13 0 rfl rfl hi hd kk
theorem axN_6 {j : Nat} (F : FX p s m args c cc nL own G) (N : Now G s (XW G ad st ++ ex) H locs) (hj : j < 36) (hd : decode cc pc = .ok (.iaload, 1)) (kk : W p l e (RM k) s m args below meth c H locs 0 0 Q (F0 m (pc + 1) ls (.int (st.2.1 6 j) :: rest))) : W p l e (RM k) s m args below meth c H locs 0 0 Q (F0 m pc ls (.int (nI j) :: .ref (ad 13) :: rest)) :=
  ax_6 F N (vp_in_nI hj (by decide)) hd (by rw [nI_clamp (show j < 2 ^ 31 by omega)]; exact kk)
theorem sx_6 {i v : Int32} (F : FX p s m args c cc nL own G) (N : Now G s (XW G ad st ++ ex) H locs) (hi : vp_in i 36) (hd : decode cc pc = .ok (.iastore, 1)) (kk : ∀ st1 : ST, st1 = sA st 6 (upd (st.2.1 6) i.toNatClampNeg v) → ∀ (H : Heap) (locs : List Loc), Now G s (XW G ad st1 ++ ex) H locs → W p l e (RM k) s m args below meth c H locs 0 0 Q (F0 m (pc + 1) ls rest)) : W p l e (RM k) s m args below meth c H locs 0 0 Q (F0 m pc ls (.int v :: .int i :: .ref (ad 13) :: rest)) :=
  va_iast F.1 F.2.1 F.2.2.2.2.2.1 N.1 N.2.1 N.2.2 13 0 rfl rfl hi hd (fun H locs hP hD hS => kk _ rfl H locs ⟨hP, hD, hS⟩)
theorem sxN_6 {j : Nat} {v : Int32} (F : FX p s m args c cc nL own G) (N : Now G s (XW G ad st ++ ex) H locs) (hj : j < 36) (hd : decode cc pc = .ok (.iastore, 1)) (kk : ∀ st1 : ST, st1 = sA st 6 (upd (st.2.1 6) j v) → ∀ (H : Heap) (locs : List Loc), Now G s (XW G ad st1 ++ ex) H locs → W p l e (RM k) s m args below meth c H locs 0 0 Q (F0 m (pc + 1) ls rest)) : W p l e (RM k) s m args below meth c H locs 0 0 Q (F0 m pc ls (.int v :: .int (nI j) :: .ref (ad 13) :: rest)) :=
  sx_6 F N (vp_in_nI hj (by decide)) hd (by rw [nI_clamp (show j < 2 ^ 31 by omega)]; exact kk)
theorem ax_7 {i : Int32} (F : FX p s m args c cc nL own G) (N : Now G s (XW G ad st ++ ex) H locs) (hi : vp_in i 36) (hd : decode cc pc = .ok (.iaload, 1)) (kk : W p l e (RM k) s m args below meth c H locs 0 0 Q (F0 m (pc + 1) ls (.int (st.2.1 7 i.toNatClampNeg) :: rest))) : W p l e (RM k) s m args below meth c H locs 0 0 Q (F0 m pc ls (.int i :: .ref (ad 14) :: rest)) :=
  va_iald F.1 F.2.1 F.2.2.2.2.2.1 N.1 14 0 rfl rfl hi hd kk
theorem axN_7 {j : Nat} (F : FX p s m args c cc nL own G) (N : Now G s (XW G ad st ++ ex) H locs) (hj : j < 36) (hd : decode cc pc = .ok (.iaload, 1)) (kk : W p l e (RM k) s m args below meth c H locs 0 0 Q (F0 m (pc + 1) ls (.int (st.2.1 7 j) :: rest))) : W p l e (RM k) s m args below meth c H locs 0 0 Q (F0 m pc ls (.int (nI j) :: .ref (ad 14) :: rest)) :=
  ax_7 F N (vp_in_nI hj (by decide)) hd (by rw [nI_clamp (show j < 2 ^ 31 by omega)]; exact kk)
theorem sx_7 {i v : Int32} (F : FX p s m args c cc nL own G) (N : Now G s (XW G ad st ++ ex) H locs) (hi : vp_in i 36) (hd : decode cc pc = .ok (.iastore, 1)) (kk : ∀ st1 : ST, st1 = sA st 7 (upd (st.2.1 7) i.toNatClampNeg v) → ∀ (H : Heap) (locs : List Loc), Now G s (XW G ad st1 ++ ex) H locs → W p l e (RM k) s m args below meth c H locs 0 0 Q (F0 m (pc + 1) ls rest)) : W p l e (RM k) s m args below meth c H locs 0 0 Q (F0 m pc ls (.int v :: .int i :: .ref (ad 14) :: rest)) :=
  va_iast F.1 F.2.1 F.2.2.2.2.2.1 N.1 N.2.1 N.2.2 14 0 rfl rfl hi hd (fun H locs hP hD hS => kk _ rfl H locs ⟨hP, hD, hS⟩)
theorem sxN_7 {j : Nat} {v : Int32} (F : FX p s m args c cc nL own G) (N : Now G s (XW G ad st ++ ex) H locs) (hj : j < 36) (hd : decode cc pc = .ok (.iastore, 1)) (kk : ∀ st1 : ST, st1 = sA st 7 (upd (st.2.1 7) j v) → ∀ (H : Heap) (locs : List Loc), Now G s (XW G ad st1 ++ ex) H locs → W p l e (RM k) s m args below meth c H locs 0 0 Q (F0 m (pc + 1) ls rest)) : W p l e (RM k) s m args below meth c H locs 0 0 Q (F0 m pc ls (.int v :: .int (nI j) :: .ref (ad 14) :: rest)) :=
  sx_7 F N (vp_in_nI hj (by decide)) hd (by rw [nI_clamp (show j < 2 ^ 31 by omega)]; exact kk)
theorem ax_8 {i : Int32} (F : FX p s m args c cc nL own G) (N : Now G s (XW G ad st ++ ex) H locs) (hi : vp_in i 36) (hd : decode cc pc = .ok (.iaload, 1)) (kk : W p l e (RM k) s m args below meth c H locs 0 0 Q (F0 m (pc + 1) ls (.int (st.2.1 8 i.toNatClampNeg) :: rest))) : W p l e (RM k) s m args below meth c H locs 0 0 Q (F0 m pc ls (.int i :: .ref (ad 15) :: rest)) :=
  va_iald F.1 F.2.1 F.2.2.2.2.2.1 N.1 15 0 rfl rfl hi hd kk
theorem axN_8 {j : Nat} (F : FX p s m args c cc nL own G) (N : Now G s (XW G ad st ++ ex) H locs) (hj : j < 36) (hd : decode cc pc = .ok (.iaload, 1)) (kk : W p l e (RM k) s m args below meth c H locs 0 0 Q (F0 m (pc + 1) ls (.int (st.2.1 8 j) :: rest))) : W p l e (RM k) s m args below meth c H locs 0 0 Q (F0 m pc ls (.int (nI j) :: .ref (ad 15) :: rest)) :=
  ax_8 F N (vp_in_nI hj (by decide)) hd (by rw [nI_clamp (show j < 2 ^ 31 by omega)]; exact kk)
theorem sx_8 {i v : Int32} (F : FX p s m args c cc nL own G) (N : Now G s (XW G ad st ++ ex) H locs) (hi : vp_in i 36) (hd : decode cc pc = .ok (.iastore, 1)) (kk : ∀ st1 : ST, st1 = sA st 8 (upd (st.2.1 8) i.toNatClampNeg v) → ∀ (H : Heap) (locs : List Loc), Now G s (XW G ad st1 ++ ex) H locs → W p l e (RM k) s m args below meth c H locs 0 0 Q (F0 m (pc + 1) ls rest)) : W p l e (RM k) s m args below meth c H locs 0 0 Q (F0 m pc ls (.int v :: .int i :: .ref (ad 15) :: rest)) :=
  va_iast F.1 F.2.1 F.2.2.2.2.2.1 N.1 N.2.1 N.2.2 15 0 rfl rfl hi hd (fun H locs hP hD hS => kk _ rfl H locs ⟨hP, hD, hS⟩)
theorem sxN_8 {j : Nat} {v : Int32} (F : FX p s m args c cc nL own G) (N : Now G s (XW G ad st ++ ex) H locs) (hj : j < 36) (hd : decode cc pc = .ok (.iastore, 1)) (kk : ∀ st1 : ST, st1 = sA st 8 (upd (st.2.1 8) j v) → ∀ (H : Heap) (locs : List Loc), Now G s (XW G ad st1 ++ ex) H locs → W p l e (RM k) s m args below meth c H locs 0 0 Q (F0 m (pc + 1) ls rest)) : W p l e (RM k) s m args below meth c H locs 0 0 Q (F0 m pc ls (.int v :: .int (nI j) :: .ref (ad 15) :: rest)) :=
  sx_8 F N (vp_in_nI hj (by decide)) hd (by rw [nI_clamp (show j < 2 ^ 31 by omega)]; exact kk)
theorem ax_9 {i : Int32} (F : FX p s m args c cc nL own G) (N : Now G s (XW G ad st ++ ex) H locs) (hi : vp_in i 36) (hd : decode cc pc = .ok (.baload, 1)) (kk : W p l e (RM k) s m args below meth c H locs 0 0 Q (F0 m (pc + 1) ls (.int (st.2.1 9 i.toNatClampNeg) :: rest))) : W p l e (RM k) s m args below meth c H locs 0 0 Q (F0 m pc ls (.int i :: .ref (ad 16) :: rest)) :=
  va_zald F.1 F.2.1 F.2.2.2.2.2.1 N.1 16 1 rfl rfl hi hd kk
theorem axN_9 {j : Nat} (F : FX p s m args c cc nL own G) (N : Now G s (XW G ad st ++ ex) H locs) (hj : j < 36) (hd : decode cc pc = .ok (.baload, 1)) (kk : W p l e (RM k) s m args below meth c H locs 0 0 Q (F0 m (pc + 1) ls (.int (st.2.1 9 j) :: rest))) : W p l e (RM k) s m args below meth c H locs 0 0 Q (F0 m pc ls (.int (nI j) :: .ref (ad 16) :: rest)) :=
  ax_9 F N (vp_in_nI hj (by decide)) hd (by rw [nI_clamp (show j < 2 ^ 31 by omega)]; exact kk)
theorem sx_9 {i v : Int32} (F : FX p s m args c cc nL own G) (N : Now G s (XW G ad st ++ ex) H locs) (hi : vp_in i 36) (hd : decode cc pc = .ok (.bastore, 1)) (kk : ∀ st1 : ST, st1 = sA st 9 (upd (st.2.1 9) i.toNatClampNeg (vp_nar .boolean v)) → ∀ (H : Heap) (locs : List Loc), Now G s (XW G ad st1 ++ ex) H locs → W p l e (RM k) s m args below meth c H locs 0 0 Q (F0 m (pc + 1) ls rest)) : W p l e (RM k) s m args below meth c H locs 0 0 Q (F0 m pc ls (.int v :: .int i :: .ref (ad 16) :: rest)) :=
  va_zast F.1 F.2.1 F.2.2.2.2.2.1 N.1 N.2.1 N.2.2 16 1 rfl rfl hi hd (fun H locs hP hD hS => kk _ rfl H locs ⟨hP, hD, hS⟩)
theorem sxN_9 {j : Nat} {v : Int32} (F : FX p s m args c cc nL own G) (N : Now G s (XW G ad st ++ ex) H locs) (hj : j < 36) (hd : decode cc pc = .ok (.bastore, 1)) (kk : ∀ st1 : ST, st1 = sA st 9 (upd (st.2.1 9) j (vp_nar .boolean v)) → ∀ (H : Heap) (locs : List Loc), Now G s (XW G ad st1 ++ ex) H locs → W p l e (RM k) s m args below meth c H locs 0 0 Q (F0 m (pc + 1) ls rest)) : W p l e (RM k) s m args below meth c H locs 0 0 Q (F0 m pc ls (.int v :: .int (nI j) :: .ref (ad 16) :: rest)) :=
  sx_9 F N (vp_in_nI hj (by decide)) hd (by rw [nI_clamp (show j < 2 ^ 31 by omega)]; exact kk)
theorem ax_10 {i : Int32} (F : FX p s m args c cc nL own G) (N : Now G s (XW G ad st ++ ex) H locs) (hi : vp_in i 39) (hd : decode cc pc = .ok (.iaload, 1)) (kk : W p l e (RM k) s m args below meth c H locs 0 0 Q (F0 m (pc + 1) ls (.int (st.2.1 10 i.toNatClampNeg) :: rest))) : W p l e (RM k) s m args below meth c H locs 0 0 Q (F0 m pc ls (.int i :: .ref (ad 17) :: rest)) :=
  va_iald F.1 F.2.1 F.2.2.2.2.2.1 N.1 17 0 rfl rfl hi hd kk
theorem axN_10 {j : Nat} (F : FX p s m args c cc nL own G) (N : Now G s (XW G ad st ++ ex) H locs) (hj : j < 39) (hd : decode cc pc = .ok (.iaload, 1)) (kk : W p l e (RM k) s m args below meth c H locs 0 0 Q (F0 m (pc + 1) ls (.int (st.2.1 10 j) :: rest))) : W p l e (RM k) s m args below meth c H locs 0 0 Q (F0 m pc ls (.int (nI j) :: .ref (ad 17) :: rest)) :=
  ax_10 F N (vp_in_nI hj (by decide)) hd (by rw [nI_clamp (show j < 2 ^ 31 by omega)]; exact kk)
theorem sx_10 {i v : Int32} (F : FX p s m args c cc nL own G) (N : Now G s (XW G ad st ++ ex) H locs) (hi : vp_in i 39) (hd : decode cc pc = .ok (.iastore, 1)) (kk : ∀ st1 : ST, st1 = sA st 10 (upd (st.2.1 10) i.toNatClampNeg v) → ∀ (H : Heap) (locs : List Loc), Now G s (XW G ad st1 ++ ex) H locs → W p l e (RM k) s m args below meth c H locs 0 0 Q (F0 m (pc + 1) ls rest)) : W p l e (RM k) s m args below meth c H locs 0 0 Q (F0 m pc ls (.int v :: .int i :: .ref (ad 17) :: rest)) :=
  va_iast F.1 F.2.1 F.2.2.2.2.2.1 N.1 N.2.1 N.2.2 17 0 rfl rfl hi hd (fun H locs hP hD hS => kk _ rfl H locs ⟨hP, hD, hS⟩)
theorem sxN_10 {j : Nat} {v : Int32} (F : FX p s m args c cc nL own G) (N : Now G s (XW G ad st ++ ex) H locs) (hj : j < 39) (hd : decode cc pc = .ok (.iastore, 1)) (kk : ∀ st1 : ST, st1 = sA st 10 (upd (st.2.1 10) j v) → ∀ (H : Heap) (locs : List Loc), Now G s (XW G ad st1 ++ ex) H locs → W p l e (RM k) s m args below meth c H locs 0 0 Q (F0 m (pc + 1) ls rest)) : W p l e (RM k) s m args below meth c H locs 0 0 Q (F0 m pc ls (.int v :: .int (nI j) :: .ref (ad 17) :: rest)) :=
  sx_10 F N (vp_in_nI hj (by decide)) hd (by rw [nI_clamp (show j < 2 ^ 31 by omega)]; exact kk)
theorem gm_0_now (F : FX p s m args c cc nL own G) (N : Now G s (MW G ad st ++ ex) H locs) (hl : Cond.fieldLink own idx RX9 (TX9 0).2.1 (TX9 0).2.2.1 ∈ goodT) (hd : decode cc pc = .ok (.getfield idx, 3)) (kk : W p l e (RM k) s m args below meth c H locs 0 0 Q (F0 m (pc + 3) ls (.ref (ad 1) :: rest))) : W p l e (RM k) s m args below meth c H locs 0 0 Q (F0 m pc ls (.ref (ad 0) :: rest)) :=
  va_get (D := G.1) (ci := 8) (C := RX9) (T := TX9) (N := 23) F.1 F.2.1 F.2.2.2.2.1 inGX9 F.2.2.2.1 F.2.2.2.2.2.1 N.1 0 rfl rfl 0 (by decide) (F.2.2.2.2.1 _ hl) (fun _ h => h) rfl hd kk
theorem gm_0_aside (F : FX p s m args c cc nL own G) (N : Now G s (MW G ad st ++ ex) H locs) (hl : Cond.fieldLink own idx RX9 (TX9 1).2.1 (TX9 1).2.2.1 ∈ goodT) (hd : decode cc pc = .ok (.getfield idx, 3)) (kk : W p l e (RM k) s m args below meth c H locs 0 0 Q (F0 m (pc + 3) ls (.ref (ad 2) :: rest))) : W p l e (RM k) s m args below meth c H locs 0 0 Q (F0 m pc ls (.ref (ad 0) :: rest)) :=
  va_get (D := G.1) (ci := 8) (C := RX9) (T := TX9) (N := 23) F.1 F.2.1 F.2.2.2.2.1 inGX9 F.2.2.2.1 F.2.2.2.2.2.1 N.1 0 rfl rfl 1 (by decide) (F.2.2.2.2.1 _ hl) (fun _ h => h) rfl hd kk
theorem gm_0_past (F : FX p s m args c cc nL own G) (N : Now G s (MW G ad st ++ ex) H locs) (hl : Cond.fieldLink own idx RX9 (TX9 2).2.1 (TX9 2).2.2.1 ∈ goodT) (hd : decode cc pc = .ok (.getfield idx, 3)) (kk : W p l e (RM k) s m args below meth c H locs 0 0 Q (F0 m (pc + 3) ls (.ref (ad 3) :: rest))) : W p l e (RM k) s m args below meth c H locs 0 0 Q (F0 m pc ls (.ref (ad 0) :: rest)) :=
  va_get (D := G.1) (ci := 8) (C := RX9) (T := TX9) (N := 23) F.1 F.2.1 F.2.2.2.2.1 inGX9 F.2.2.2.1 F.2.2.2.2.2.1 N.1 0 rfl rfl 2 (by decide) (F.2.2.2.2.1 _ hl) (fun _ h => h) rfl hd kk
theorem gm_0_states (F : FX p s m args c cc nL own G) (N : Now G s (MW G ad st ++ ex) H locs) (hl : Cond.fieldLink own idx RX9 (TX9 3).2.1 (TX9 3).2.2.1 ∈ goodT) (hd : decode cc pc = .ok (.getfield idx, 3)) (kk : W p l e (RM k) s m args below meth c H locs 0 0 Q (F0 m (pc + 3) ls (.int (st.1 0) :: rest))) : W p l e (RM k) s m args below meth c H locs 0 0 Q (F0 m pc ls (.ref (ad 0) :: rest)) :=
  va_get (D := G.1) (ci := 8) (C := RX9) (T := TX9) (N := 23) F.1 F.2.1 F.2.2.2.2.1 inGX9 F.2.2.2.1 F.2.2.2.2.2.1 N.1 0 rfl rfl 3 (by decide) (F.2.2.2.2.1 _ hl) (fun _ h => h) rfl hd kk
theorem pm_0_states {v : Int32} (F : FX p s m args c cc nL own G) (N : Now G s (MW G ad st ++ ex) H locs) (hl : Cond.fieldLink own idx RX9 (TX9 3).2.1 (TX9 3).2.2.1 ∈ goodT) (hd : decode cc pc = .ok (.putfield idx, 3)) (kk : ∀ st1 : ST, st1 = sI st 0 v → ∀ (H : Heap) (locs : List Loc), Now G s (MW G ad st1 ++ ex) H locs → W p l e (RM k) s m args below meth c H locs 0 0 Q (F0 m (pc + 3) ls rest)) : W p l e (RM k) s m args below meth c H locs 0 0 Q (F0 m pc ls (.int v :: .ref (ad 0) :: rest)) :=
  va_put (D := G.1) (ci := 8) (v := .int v) (ty := .int) (C := RX9) (T := TX9) (N := 23) F.1 F.2.1 F.2.2.2.2.1 inGX9 tyX9 tyX9_ok nmX9 F.2.2.2.1 F.2.2.2.2.2.1 N.1 N.2.1 N.2.2 0 rfl rfl 3 (by decide) (F.2.2.2.2.1 _ hl) (fun _ h => h) rfl (by decide +kernel) rfl rfl (Nat.le_of_ble_eq_true rfl) hd (fun H locs hP hD hS => kk _ rfl H locs ⟨hP, hD, hS⟩)
theorem gm_0_refused (F : FX p s m args c cc nL own G) (N : Now G s (MW G ad st ++ ex) H locs) (hl : Cond.fieldLink own idx RX9 (TX9 4).2.1 (TX9 4).2.2.1 ∈ goodT) (hd : decode cc pc = .ok (.getfield idx, 3)) (kk : W p l e (RM k) s m args below meth c H locs 0 0 Q (F0 m (pc + 3) ls (.ref (ad 4) :: rest))) : W p l e (RM k) s m args below meth c H locs 0 0 Q (F0 m pc ls (.ref (ad 0) :: rest)) :=
  va_get (D := G.1) (ci := 8) (C := RX9) (T := TX9) (N := 23) F.1 F.2.1 F.2.2.2.2.1 inGX9 F.2.2.2.1 F.2.2.2.2.2.1 N.1 0 rfl rfl 4 (by decide) (F.2.2.2.2.1 _ hl) (fun _ h => h) rfl hd kk
theorem gm_0_text (F : FX p s m args c cc nL own G) (N : Now G s (MW G ad st ++ ex) H locs) (hl : Cond.fieldLink own idx RX9 (TX9 5).2.1 (TX9 5).2.2.1 ∈ goodT) (hd : decode cc pc = .ok (.getfield idx, 3)) (kk : W p l e (RM k) s m args below meth c H locs 0 0 Q (F0 m (pc + 3) ls (.ref (ad 5) :: rest))) : W p l e (RM k) s m args below meth c H locs 0 0 Q (F0 m pc ls (.ref (ad 0) :: rest)) :=
  va_get (D := G.1) (ci := 8) (C := RX9) (T := TX9) (N := 23) F.1 F.2.1 F.2.2.2.2.1 inGX9 F.2.2.2.1 F.2.2.2.2.2.1 N.1 0 rfl rfl 5 (by decide) (F.2.2.2.2.1 _ hl) (fun _ h => h) rfl hd kk
theorem gm_0_bytes (F : FX p s m args c cc nL own G) (N : Now G s (MW G ad st ++ ex) H locs) (hl : Cond.fieldLink own idx RX9 (TX9 6).2.1 (TX9 6).2.2.1 ∈ goodT) (hd : decode cc pc = .ok (.getfield idx, 3)) (kk : W p l e (RM k) s m args below meth c H locs 0 0 Q (F0 m (pc + 3) ls (.int (st.1 1) :: rest))) : W p l e (RM k) s m args below meth c H locs 0 0 Q (F0 m pc ls (.ref (ad 0) :: rest)) :=
  va_get (D := G.1) (ci := 8) (C := RX9) (T := TX9) (N := 23) F.1 F.2.1 F.2.2.2.2.1 inGX9 F.2.2.2.1 F.2.2.2.2.2.1 N.1 0 rfl rfl 6 (by decide) (F.2.2.2.2.1 _ hl) (fun _ h => h) rfl hd kk
theorem pm_0_bytes {v : Int32} (F : FX p s m args c cc nL own G) (N : Now G s (MW G ad st ++ ex) H locs) (hl : Cond.fieldLink own idx RX9 (TX9 6).2.1 (TX9 6).2.2.1 ∈ goodT) (hd : decode cc pc = .ok (.putfield idx, 3)) (kk : ∀ st1 : ST, st1 = sI st 1 v → ∀ (H : Heap) (locs : List Loc), Now G s (MW G ad st1 ++ ex) H locs → W p l e (RM k) s m args below meth c H locs 0 0 Q (F0 m (pc + 3) ls rest)) : W p l e (RM k) s m args below meth c H locs 0 0 Q (F0 m pc ls (.int v :: .ref (ad 0) :: rest)) :=
  va_put (D := G.1) (ci := 8) (v := .int v) (ty := .int) (C := RX9) (T := TX9) (N := 23) F.1 F.2.1 F.2.2.2.2.1 inGX9 tyX9 tyX9_ok nmX9 F.2.2.2.1 F.2.2.2.2.2.1 N.1 N.2.1 N.2.2 0 rfl rfl 6 (by decide) (F.2.2.2.2.1 _ hl) (fun _ h => h) rfl (by decide +kernel) rfl rfl (Nat.le_of_ble_eq_true rfl) hd (fun H locs hP hD hS => kk _ rfl H locs ⟨hP, hD, hS⟩)
theorem gm_0_read (F : FX p s m args c cc nL own G) (N : Now G s (MW G ad st ++ ex) H locs) (hl : Cond.fieldLink own idx RX9 (TX9 7).2.1 (TX9 7).2.2.1 ∈ goodT) (hd : decode cc pc = .ok (.getfield idx, 3)) (kk : W p l e (RM k) s m args below meth c H locs 0 0 Q (F0 m (pc + 3) ls (.ref (ad 6) :: rest))) : W p l e (RM k) s m args below meth c H locs 0 0 Q (F0 m pc ls (.ref (ad 0) :: rest)) :=
  va_get (D := G.1) (ci := 8) (C := RX9) (T := TX9) (N := 23) F.1 F.2.1 F.2.2.2.2.1 inGX9 F.2.2.2.1 F.2.2.2.2.2.1 N.1 0 rfl rfl 7 (by decide) (F.2.2.2.2.1 _ hl) (fun _ h => h) rfl hd kk
theorem gm_0_spot (F : FX p s m args c cc nL own G) (N : Now G s (MW G ad st ++ ex) H locs) (hl : Cond.fieldLink own idx RX9 (TX9 8).2.1 (TX9 8).2.2.1 ∈ goodT) (hd : decode cc pc = .ok (.getfield idx, 3)) (kk : W p l e (RM k) s m args below meth c H locs 0 0 Q (F0 m (pc + 3) ls (.int (st.1 2) :: rest))) : W p l e (RM k) s m args below meth c H locs 0 0 Q (F0 m pc ls (.ref (ad 0) :: rest)) :=
  va_get (D := G.1) (ci := 8) (C := RX9) (T := TX9) (N := 23) F.1 F.2.1 F.2.2.2.2.1 inGX9 F.2.2.2.1 F.2.2.2.2.2.1 N.1 0 rfl rfl 8 (by decide) (F.2.2.2.2.1 _ hl) (fun _ h => h) rfl hd kk
theorem pm_0_spot {v : Int32} (F : FX p s m args c cc nL own G) (N : Now G s (MW G ad st ++ ex) H locs) (hl : Cond.fieldLink own idx RX9 (TX9 8).2.1 (TX9 8).2.2.1 ∈ goodT) (hd : decode cc pc = .ok (.putfield idx, 3)) (kk : ∀ st1 : ST, st1 = sI st 2 v → ∀ (H : Heap) (locs : List Loc), Now G s (MW G ad st1 ++ ex) H locs → W p l e (RM k) s m args below meth c H locs 0 0 Q (F0 m (pc + 3) ls rest)) : W p l e (RM k) s m args below meth c H locs 0 0 Q (F0 m pc ls (.int v :: .ref (ad 0) :: rest)) :=
  va_put (D := G.1) (ci := 8) (v := .int v) (ty := .int) (C := RX9) (T := TX9) (N := 23) F.1 F.2.1 F.2.2.2.2.1 inGX9 tyX9 tyX9_ok nmX9 F.2.2.2.1 F.2.2.2.2.2.1 N.1 N.2.1 N.2.2 0 rfl rfl 8 (by decide) (F.2.2.2.2.1 _ hl) (fun _ h => h) rfl (by decide +kernel) rfl rfl (Nat.le_of_ble_eq_true rfl) hd (fun H locs hP hD hS => kk _ rfl H locs ⟨hP, hD, hS⟩)
theorem gm_0_wrongAt (F : FX p s m args c cc nL own G) (N : Now G s (MW G ad st ++ ex) H locs) (hl : Cond.fieldLink own idx RX9 (TX9 9).2.1 (TX9 9).2.2.1 ∈ goodT) (hd : decode cc pc = .ok (.getfield idx, 3)) (kk : W p l e (RM k) s m args below meth c H locs 0 0 Q (F0 m (pc + 3) ls (.int (st.1 3) :: rest))) : W p l e (RM k) s m args below meth c H locs 0 0 Q (F0 m pc ls (.ref (ad 0) :: rest)) :=
  va_get (D := G.1) (ci := 8) (C := RX9) (T := TX9) (N := 23) F.1 F.2.1 F.2.2.2.2.1 inGX9 F.2.2.2.1 F.2.2.2.2.2.1 N.1 0 rfl rfl 9 (by decide) (F.2.2.2.2.1 _ hl) (fun _ h => h) rfl hd kk
theorem pm_0_wrongAt {v : Int32} (F : FX p s m args c cc nL own G) (N : Now G s (MW G ad st ++ ex) H locs) (hl : Cond.fieldLink own idx RX9 (TX9 9).2.1 (TX9 9).2.2.1 ∈ goodT) (hd : decode cc pc = .ok (.putfield idx, 3)) (kk : ∀ st1 : ST, st1 = sI st 3 v → ∀ (H : Heap) (locs : List Loc), Now G s (MW G ad st1 ++ ex) H locs → W p l e (RM k) s m args below meth c H locs 0 0 Q (F0 m (pc + 3) ls rest)) : W p l e (RM k) s m args below meth c H locs 0 0 Q (F0 m pc ls (.int v :: .ref (ad 0) :: rest)) :=
  va_put (D := G.1) (ci := 8) (v := .int v) (ty := .int) (C := RX9) (T := TX9) (N := 23) F.1 F.2.1 F.2.2.2.2.1 inGX9 tyX9 tyX9_ok nmX9 F.2.2.2.1 F.2.2.2.2.2.1 N.1 N.2.1 N.2.2 0 rfl rfl 9 (by decide) (F.2.2.2.2.1 _ hl) (fun _ h => h) rfl (by decide +kernel) rfl rfl (Nat.le_of_ble_eq_true rfl) hd (fun H locs hP hD hS => kk _ rfl H locs ⟨hP, hD, hS⟩)
theorem gm_0_written (F : FX p s m args c cc nL own G) (N : Now G s (MW G ad st ++ ex) H locs) (hl : Cond.fieldLink own idx RX9 (TX9 10).2.1 (TX9 10).2.2.1 ∈ goodT) (hd : decode cc pc = .ok (.getfield idx, 3)) (kk : W p l e (RM k) s m args below meth c H locs 0 0 Q (F0 m (pc + 3) ls (.ref (ad 7) :: rest))) : W p l e (RM k) s m args below meth c H locs 0 0 Q (F0 m pc ls (.ref (ad 0) :: rest)) :=
  va_get (D := G.1) (ci := 8) (C := RX9) (T := TX9) (N := 23) F.1 F.2.1 F.2.2.2.2.1 inGX9 F.2.2.2.1 F.2.2.2.2.2.1 N.1 0 rfl rfl 10 (by decide) (F.2.2.2.2.1 _ hl) (fun _ h => h) rfl hd kk
theorem gm_0_length (F : FX p s m args c cc nL own G) (N : Now G s (MW G ad st ++ ex) H locs) (hl : Cond.fieldLink own idx RX9 (TX9 11).2.1 (TX9 11).2.2.1 ∈ goodT) (hd : decode cc pc = .ok (.getfield idx, 3)) (kk : W p l e (RM k) s m args below meth c H locs 0 0 Q (F0 m (pc + 3) ls (.int (st.1 4) :: rest))) : W p l e (RM k) s m args below meth c H locs 0 0 Q (F0 m pc ls (.ref (ad 0) :: rest)) :=
  va_get (D := G.1) (ci := 8) (C := RX9) (T := TX9) (N := 23) F.1 F.2.1 F.2.2.2.2.1 inGX9 F.2.2.2.1 F.2.2.2.2.2.1 N.1 0 rfl rfl 11 (by decide) (F.2.2.2.2.1 _ hl) (fun _ h => h) rfl hd kk
theorem pm_0_length {v : Int32} (F : FX p s m args c cc nL own G) (N : Now G s (MW G ad st ++ ex) H locs) (hl : Cond.fieldLink own idx RX9 (TX9 11).2.1 (TX9 11).2.2.1 ∈ goodT) (hd : decode cc pc = .ok (.putfield idx, 3)) (kk : ∀ st1 : ST, st1 = sI st 4 v → ∀ (H : Heap) (locs : List Loc), Now G s (MW G ad st1 ++ ex) H locs → W p l e (RM k) s m args below meth c H locs 0 0 Q (F0 m (pc + 3) ls rest)) : W p l e (RM k) s m args below meth c H locs 0 0 Q (F0 m pc ls (.int v :: .ref (ad 0) :: rest)) :=
  va_put (D := G.1) (ci := 8) (v := .int v) (ty := .int) (C := RX9) (T := TX9) (N := 23) F.1 F.2.1 F.2.2.2.2.1 inGX9 tyX9 tyX9_ok nmX9 F.2.2.2.1 F.2.2.2.2.2.1 N.1 N.2.1 N.2.2 0 rfl rfl 11 (by decide) (F.2.2.2.2.1 _ hl) (fun _ h => h) rfl (by decide +kernel) rfl rfl (Nat.le_of_ble_eq_true rfl) hd (fun H locs hP hD hS => kk _ rfl H locs ⟨hP, hD, hS⟩)
theorem gm_0_isKnown (F : FX p s m args c cc nL own G) (N : Now G s (MW G ad st ++ ex) H locs) (hl : Cond.fieldLink own idx RX9 (TX9 12).2.1 (TX9 12).2.2.1 ∈ goodT) (hd : decode cc pc = .ok (.getfield idx, 3)) (kk : W p l e (RM k) s m args below meth c H locs 0 0 Q (F0 m (pc + 3) ls (.ref (ad 8) :: rest))) : W p l e (RM k) s m args below meth c H locs 0 0 Q (F0 m pc ls (.ref (ad 0) :: rest)) :=
  va_get (D := G.1) (ci := 8) (C := RX9) (T := TX9) (N := 23) F.1 F.2.1 F.2.2.2.2.1 inGX9 F.2.2.2.1 F.2.2.2.2.2.1 N.1 0 rfl rfl 12 (by decide) (F.2.2.2.2.1 _ hl) (fun _ h => h) rfl hd kk
theorem gm_0_values (F : FX p s m args c cc nL own G) (N : Now G s (MW G ad st ++ ex) H locs) (hl : Cond.fieldLink own idx RX9 (TX9 13).2.1 (TX9 13).2.2.1 ∈ goodT) (hd : decode cc pc = .ok (.getfield idx, 3)) (kk : W p l e (RM k) s m args below meth c H locs 0 0 Q (F0 m (pc + 3) ls (.ref (ad 9) :: rest))) : W p l e (RM k) s m args below meth c H locs 0 0 Q (F0 m pc ls (.ref (ad 0) :: rest)) :=
  va_get (D := G.1) (ci := 8) (C := RX9) (T := TX9) (N := 23) F.1 F.2.1 F.2.2.2.2.1 inGX9 F.2.2.2.1 F.2.2.2.2.2.1 N.1 0 rfl rfl 13 (by decide) (F.2.2.2.2.1 _ hl) (fun _ h => h) rfl hd kk
theorem gm_0_asked (F : FX p s m args c cc nL own G) (N : Now G s (MW G ad st ++ ex) H locs) (hl : Cond.fieldLink own idx RX9 (TX9 14).2.1 (TX9 14).2.2.1 ∈ goodT) (hd : decode cc pc = .ok (.getfield idx, 3)) (kk : W p l e (RM k) s m args below meth c H locs 0 0 Q (F0 m (pc + 3) ls (.ref (ad 10) :: rest))) : W p l e (RM k) s m args below meth c H locs 0 0 Q (F0 m pc ls (.ref (ad 0) :: rest)) :=
  va_get (D := G.1) (ci := 8) (C := RX9) (T := TX9) (N := 23) F.1 F.2.1 F.2.2.2.2.1 inGX9 F.2.2.2.1 F.2.2.2.2.2.1 N.1 0 rfl rfl 14 (by decide) (F.2.2.2.2.1 _ hl) (fun _ h => h) rfl hd kk
theorem gm_0_termAt (F : FX p s m args c cc nL own G) (N : Now G s (MW G ad st ++ ex) H locs) (hl : Cond.fieldLink own idx RX9 (TX9 15).2.1 (TX9 15).2.2.1 ∈ goodT) (hd : decode cc pc = .ok (.getfield idx, 3)) (kk : W p l e (RM k) s m args below meth c H locs 0 0 Q (F0 m (pc + 3) ls (.ref (ad 11) :: rest))) : W p l e (RM k) s m args below meth c H locs 0 0 Q (F0 m pc ls (.ref (ad 0) :: rest)) :=
  va_get (D := G.1) (ci := 8) (C := RX9) (T := TX9) (N := 23) F.1 F.2.1 F.2.2.2.2.1 inGX9 F.2.2.2.1 F.2.2.2.2.2.1 N.1 0 rfl rfl 15 (by decide) (F.2.2.2.2.1 _ hl) (fun _ h => h) rfl hd kk
theorem gm_0_cellAt (F : FX p s m args c cc nL own G) (N : Now G s (MW G ad st ++ ex) H locs) (hl : Cond.fieldLink own idx RX9 (TX9 16).2.1 (TX9 16).2.2.1 ∈ goodT) (hd : decode cc pc = .ok (.getfield idx, 3)) (kk : W p l e (RM k) s m args below meth c H locs 0 0 Q (F0 m (pc + 3) ls (.ref (ad 12) :: rest))) : W p l e (RM k) s m args below meth c H locs 0 0 Q (F0 m pc ls (.ref (ad 0) :: rest)) :=
  va_get (D := G.1) (ci := 8) (C := RX9) (T := TX9) (N := 23) F.1 F.2.1 F.2.2.2.2.1 inGX9 F.2.2.2.1 F.2.2.2.2.2.1 N.1 0 rfl rfl 16 (by decide) (F.2.2.2.2.1 _ hl) (fun _ h => h) rfl hd kk
theorem gm_0_sums (F : FX p s m args c cc nL own G) (N : Now G s (MW G ad st ++ ex) H locs) (hl : Cond.fieldLink own idx RX9 (TX9 17).2.1 (TX9 17).2.2.1 ∈ goodT) (hd : decode cc pc = .ok (.getfield idx, 3)) (kk : W p l e (RM k) s m args below meth c H locs 0 0 Q (F0 m (pc + 3) ls (.ref (ad 13) :: rest))) : W p l e (RM k) s m args below meth c H locs 0 0 Q (F0 m pc ls (.ref (ad 0) :: rest)) :=
  va_get (D := G.1) (ci := 8) (C := RX9) (T := TX9) (N := 23) F.1 F.2.1 F.2.2.2.2.1 inGX9 F.2.2.2.1 F.2.2.2.2.2.1 N.1 0 rfl rfl 17 (by decide) (F.2.2.2.2.1 _ hl) (fun _ h => h) rfl hd kk
theorem gm_0_depth (F : FX p s m args c cc nL own G) (N : Now G s (MW G ad st ++ ex) H locs) (hl : Cond.fieldLink own idx RX9 (TX9 18).2.1 (TX9 18).2.2.1 ∈ goodT) (hd : decode cc pc = .ok (.getfield idx, 3)) (kk : W p l e (RM k) s m args below meth c H locs 0 0 Q (F0 m (pc + 3) ls (.int (st.1 5) :: rest))) : W p l e (RM k) s m args below meth c H locs 0 0 Q (F0 m pc ls (.ref (ad 0) :: rest)) :=
  va_get (D := G.1) (ci := 8) (C := RX9) (T := TX9) (N := 23) F.1 F.2.1 F.2.2.2.2.1 inGX9 F.2.2.2.1 F.2.2.2.2.2.1 N.1 0 rfl rfl 18 (by decide) (F.2.2.2.2.1 _ hl) (fun _ h => h) rfl hd kk
theorem pm_0_depth {v : Int32} (F : FX p s m args c cc nL own G) (N : Now G s (MW G ad st ++ ex) H locs) (hl : Cond.fieldLink own idx RX9 (TX9 18).2.1 (TX9 18).2.2.1 ∈ goodT) (hd : decode cc pc = .ok (.putfield idx, 3)) (kk : ∀ st1 : ST, st1 = sI st 5 v → ∀ (H : Heap) (locs : List Loc), Now G s (MW G ad st1 ++ ex) H locs → W p l e (RM k) s m args below meth c H locs 0 0 Q (F0 m (pc + 3) ls rest)) : W p l e (RM k) s m args below meth c H locs 0 0 Q (F0 m pc ls (.int v :: .ref (ad 0) :: rest)) :=
  va_put (D := G.1) (ci := 8) (v := .int v) (ty := .int) (C := RX9) (T := TX9) (N := 23) F.1 F.2.1 F.2.2.2.2.1 inGX9 tyX9 tyX9_ok nmX9 F.2.2.2.1 F.2.2.2.2.2.1 N.1 N.2.1 N.2.2 0 rfl rfl 18 (by decide) (F.2.2.2.2.1 _ hl) (fun _ h => h) rfl (by decide +kernel) rfl rfl (Nat.le_of_ble_eq_true rfl) hd (fun H locs hP hD hS => kk _ rfl H locs ⟨hP, hD, hS⟩)
theorem gm_0_fault (F : FX p s m args c cc nL own G) (N : Now G s (MW G ad st ++ ex) H locs) (hl : Cond.fieldLink own idx RX9 (TX9 19).2.1 (TX9 19).2.2.1 ∈ goodT) (hd : decode cc pc = .ok (.getfield idx, 3)) (kk : W p l e (RM k) s m args below meth c H locs 0 0 Q (F0 m (pc + 3) ls (.int (st.1 6) :: rest))) : W p l e (RM k) s m args below meth c H locs 0 0 Q (F0 m pc ls (.ref (ad 0) :: rest)) :=
  va_get (D := G.1) (ci := 8) (C := RX9) (T := TX9) (N := 23) F.1 F.2.1 F.2.2.2.2.1 inGX9 F.2.2.2.1 F.2.2.2.2.2.1 N.1 0 rfl rfl 19 (by decide) (F.2.2.2.2.1 _ hl) (fun _ h => h) rfl hd kk
theorem pm_0_fault {v : Int32} (F : FX p s m args c cc nL own G) (N : Now G s (MW G ad st ++ ex) H locs) (hl : Cond.fieldLink own idx RX9 (TX9 19).2.1 (TX9 19).2.2.1 ∈ goodT) (hd : decode cc pc = .ok (.putfield idx, 3)) (kk : ∀ st1 : ST, st1 = sI st 6 v → ∀ (H : Heap) (locs : List Loc), Now G s (MW G ad st1 ++ ex) H locs → W p l e (RM k) s m args below meth c H locs 0 0 Q (F0 m (pc + 3) ls rest)) : W p l e (RM k) s m args below meth c H locs 0 0 Q (F0 m pc ls (.int v :: .ref (ad 0) :: rest)) :=
  va_put (D := G.1) (ci := 8) (v := .int v) (ty := .int) (C := RX9) (T := TX9) (N := 23) F.1 F.2.1 F.2.2.2.2.1 inGX9 tyX9 tyX9_ok nmX9 F.2.2.2.1 F.2.2.2.2.2.1 N.1 N.2.1 N.2.2 0 rfl rfl 19 (by decide) (F.2.2.2.2.1 _ hl) (fun _ h => h) rfl (by decide +kernel) rfl rfl (Nat.le_of_ble_eq_true rfl) hd (fun H locs hP hD hS => kk _ rfl H locs ⟨hP, hD, hS⟩)
theorem gm_0_faultCell (F : FX p s m args c cc nL own G) (N : Now G s (MW G ad st ++ ex) H locs) (hl : Cond.fieldLink own idx RX9 (TX9 20).2.1 (TX9 20).2.2.1 ∈ goodT) (hd : decode cc pc = .ok (.getfield idx, 3)) (kk : W p l e (RM k) s m args below meth c H locs 0 0 Q (F0 m (pc + 3) ls (.int (st.1 7) :: rest))) : W p l e (RM k) s m args below meth c H locs 0 0 Q (F0 m pc ls (.ref (ad 0) :: rest)) :=
  va_get (D := G.1) (ci := 8) (C := RX9) (T := TX9) (N := 23) F.1 F.2.1 F.2.2.2.2.1 inGX9 F.2.2.2.1 F.2.2.2.2.2.1 N.1 0 rfl rfl 20 (by decide) (F.2.2.2.2.1 _ hl) (fun _ h => h) rfl hd kk
theorem pm_0_faultCell {v : Int32} (F : FX p s m args c cc nL own G) (N : Now G s (MW G ad st ++ ex) H locs) (hl : Cond.fieldLink own idx RX9 (TX9 20).2.1 (TX9 20).2.2.1 ∈ goodT) (hd : decode cc pc = .ok (.putfield idx, 3)) (kk : ∀ st1 : ST, st1 = sI st 7 v → ∀ (H : Heap) (locs : List Loc), Now G s (MW G ad st1 ++ ex) H locs → W p l e (RM k) s m args below meth c H locs 0 0 Q (F0 m (pc + 3) ls rest)) : W p l e (RM k) s m args below meth c H locs 0 0 Q (F0 m pc ls (.int v :: .ref (ad 0) :: rest)) :=
  va_put (D := G.1) (ci := 8) (v := .int v) (ty := .int) (C := RX9) (T := TX9) (N := 23) F.1 F.2.1 F.2.2.2.2.1 inGX9 tyX9 tyX9_ok nmX9 F.2.2.2.1 F.2.2.2.2.2.1 N.1 N.2.1 N.2.2 0 rfl rfl 20 (by decide) (F.2.2.2.2.1 _ hl) (fun _ h => h) rfl (by decide +kernel) rfl rfl (Nat.le_of_ble_eq_true rfl) hd (fun H locs hP hD hS => kk _ rfl H locs ⟨hP, hD, hS⟩)
theorem gm_0_faultDeep (F : FX p s m args c cc nL own G) (N : Now G s (MW G ad st ++ ex) H locs) (hl : Cond.fieldLink own idx RX9 (TX9 21).2.1 (TX9 21).2.2.1 ∈ goodT) (hd : decode cc pc = .ok (.getfield idx, 3)) (kk : W p l e (RM k) s m args below meth c H locs 0 0 Q (F0 m (pc + 3) ls (.int (st.1 8) :: rest))) : W p l e (RM k) s m args below meth c H locs 0 0 Q (F0 m pc ls (.ref (ad 0) :: rest)) :=
  va_get (D := G.1) (ci := 8) (C := RX9) (T := TX9) (N := 23) F.1 F.2.1 F.2.2.2.2.1 inGX9 F.2.2.2.1 F.2.2.2.2.2.1 N.1 0 rfl rfl 21 (by decide) (F.2.2.2.2.1 _ hl) (fun _ h => h) rfl hd kk
theorem pm_0_faultDeep {v : Int32} (F : FX p s m args c cc nL own G) (N : Now G s (MW G ad st ++ ex) H locs) (hl : Cond.fieldLink own idx RX9 (TX9 21).2.1 (TX9 21).2.2.1 ∈ goodT) (hd : decode cc pc = .ok (.putfield idx, 3)) (kk : ∀ st1 : ST, st1 = sI st 8 v → ∀ (H : Heap) (locs : List Loc), Now G s (MW G ad st1 ++ ex) H locs → W p l e (RM k) s m args below meth c H locs 0 0 Q (F0 m (pc + 3) ls rest)) : W p l e (RM k) s m args below meth c H locs 0 0 Q (F0 m pc ls (.int v :: .ref (ad 0) :: rest)) :=
  va_put (D := G.1) (ci := 8) (v := .int v) (ty := .int) (C := RX9) (T := TX9) (N := 23) F.1 F.2.1 F.2.2.2.2.1 inGX9 tyX9 tyX9_ok nmX9 F.2.2.2.1 F.2.2.2.2.2.1 N.1 N.2.1 N.2.2 0 rfl rfl 21 (by decide) (F.2.2.2.2.1 _ hl) (fun _ h => h) rfl (by decide +kernel) rfl rfl (Nat.le_of_ble_eq_true rfl) hd (fun H locs hP hD hS => kk _ rfl H locs ⟨hP, hD, hS⟩)
theorem gm_0_hash (F : FX p s m args c cc nL own G) (N : Now G s (MW G ad st ++ ex) H locs) (hl : Cond.fieldLink own idx RX9 (TX9 22).2.1 (TX9 22).2.2.1 ∈ goodT) (hd : decode cc pc = .ok (.getfield idx, 3)) (kk : W p l e (RM k) s m args below meth c H locs 0 0 Q (F0 m (pc + 3) ls (.long st.2.2 :: rest))) : W p l e (RM k) s m args below meth c H locs 0 0 Q (F0 m pc ls (.ref (ad 0) :: rest)) :=
  va_get (D := G.1) (ci := 8) (C := RX9) (T := TX9) (N := 23) F.1 F.2.1 F.2.2.2.2.1 inGX9 F.2.2.2.1 F.2.2.2.2.2.1 N.1 0 rfl rfl 22 (by decide) (F.2.2.2.2.1 _ hl) (fun _ h => h) rfl hd kk
theorem pm_0_hash {v : Int64} (F : FX p s m args c cc nL own G) (N : Now G s (MW G ad st ++ ex) H locs) (hl : Cond.fieldLink own idx RX9 (TX9 22).2.1 (TX9 22).2.2.1 ∈ goodT) (hd : decode cc pc = .ok (.putfield idx, 3)) (kk : ∀ st1 : ST, st1 = sL st v → ∀ (H : Heap) (locs : List Loc), Now G s (MW G ad st1 ++ ex) H locs → W p l e (RM k) s m args below meth c H locs 0 0 Q (F0 m (pc + 3) ls rest)) : W p l e (RM k) s m args below meth c H locs 0 0 Q (F0 m pc ls (.long v :: .ref (ad 0) :: rest)) :=
  va_put (D := G.1) (ci := 8) (v := .long v) (ty := .long) (C := RX9) (T := TX9) (N := 23) F.1 F.2.1 F.2.2.2.2.1 inGX9 tyX9 tyX9_ok nmX9 F.2.2.2.1 F.2.2.2.2.2.1 N.1 N.2.1 N.2.2 0 rfl rfl 22 (by decide) (F.2.2.2.2.1 _ hl) (fun _ h => h) rfl (by decide +kernel) rfl rfl (Nat.le_of_ble_eq_true rfl) hd (fun H locs hP hD hS => kk _ rfl H locs ⟨hP, hD, hS⟩)
theorem am_0 {i : Int32} (F : FX p s m args c cc nL own G) (N : Now G s (MW G ad st ++ ex) H locs) (hi : vp_in i 900) (hd : decode cc pc = .ok (.iaload, 1)) (kk : W p l e (RM k) s m args below meth c H locs 0 0 Q (F0 m (pc + 1) ls (.int (st.2.1 0 i.toNatClampNeg) :: rest))) : W p l e (RM k) s m args below meth c H locs 0 0 Q (F0 m pc ls (.int i :: .ref (ad 1) :: rest)) :=
  va_iald F.1 F.2.1 F.2.2.2.2.2.1 N.1 1 0 rfl rfl hi hd kk
theorem amN_0 {j : Nat} (F : FX p s m args c cc nL own G) (N : Now G s (MW G ad st ++ ex) H locs) (hj : j < 900) (hd : decode cc pc = .ok (.iaload, 1)) (kk : W p l e (RM k) s m args below meth c H locs 0 0 Q (F0 m (pc + 1) ls (.int (st.2.1 0 j) :: rest))) : W p l e (RM k) s m args below meth c H locs 0 0 Q (F0 m pc ls (.int (nI j) :: .ref (ad 1) :: rest)) :=
  am_0 F N (vp_in_nI hj (by decide)) hd (by rw [nI_clamp (show j < 2 ^ 31 by omega)]; exact kk)
theorem sm_0 {i v : Int32} (F : FX p s m args c cc nL own G) (N : Now G s (MW G ad st ++ ex) H locs) (hi : vp_in i 900) (hd : decode cc pc = .ok (.iastore, 1)) (kk : ∀ st1 : ST, st1 = sA st 0 (upd (st.2.1 0) i.toNatClampNeg v) → ∀ (H : Heap) (locs : List Loc), Now G s (MW G ad st1 ++ ex) H locs → W p l e (RM k) s m args below meth c H locs 0 0 Q (F0 m (pc + 1) ls rest)) : W p l e (RM k) s m args below meth c H locs 0 0 Q (F0 m pc ls (.int v :: .int i :: .ref (ad 1) :: rest)) :=
  va_iast F.1 F.2.1 F.2.2.2.2.2.1 N.1 N.2.1 N.2.2 1 0 rfl rfl hi hd (fun H locs hP hD hS => kk _ rfl H locs ⟨hP, hD, hS⟩)
theorem smN_0 {j : Nat} {v : Int32} (F : FX p s m args c cc nL own G) (N : Now G s (MW G ad st ++ ex) H locs) (hj : j < 900) (hd : decode cc pc = .ok (.iastore, 1)) (kk : ∀ st1 : ST, st1 = sA st 0 (upd (st.2.1 0) j v) → ∀ (H : Heap) (locs : List Loc), Now G s (MW G ad st1 ++ ex) H locs → W p l e (RM k) s m args below meth c H locs 0 0 Q (F0 m (pc + 1) ls rest)) : W p l e (RM k) s m args below meth c H locs 0 0 Q (F0 m pc ls (.int v :: .int (nI j) :: .ref (ad 1) :: rest)) :=
  sm_0 F N (vp_in_nI hj (by decide)) hd (by rw [nI_clamp (show j < 2 ^ 31 by omega)]; exact kk)
theorem am_1 {i : Int32} (F : FX p s m args c cc nL own G) (N : Now G s (MW G ad st ++ ex) H locs) (hi : vp_in i 900) (hd : decode cc pc = .ok (.iaload, 1)) (kk : W p l e (RM k) s m args below meth c H locs 0 0 Q (F0 m (pc + 1) ls (.int (st.2.1 1 i.toNatClampNeg) :: rest))) : W p l e (RM k) s m args below meth c H locs 0 0 Q (F0 m pc ls (.int i :: .ref (ad 2) :: rest)) :=
  va_iald F.1 F.2.1 F.2.2.2.2.2.1 N.1 2 0 rfl rfl hi hd kk
theorem amN_1 {j : Nat} (F : FX p s m args c cc nL own G) (N : Now G s (MW G ad st ++ ex) H locs) (hj : j < 900) (hd : decode cc pc = .ok (.iaload, 1)) (kk : W p l e (RM k) s m args below meth c H locs 0 0 Q (F0 m (pc + 1) ls (.int (st.2.1 1 j) :: rest))) : W p l e (RM k) s m args below meth c H locs 0 0 Q (F0 m pc ls (.int (nI j) :: .ref (ad 2) :: rest)) :=
  am_1 F N (vp_in_nI hj (by decide)) hd (by rw [nI_clamp (show j < 2 ^ 31 by omega)]; exact kk)
theorem sm_1 {i v : Int32} (F : FX p s m args c cc nL own G) (N : Now G s (MW G ad st ++ ex) H locs) (hi : vp_in i 900) (hd : decode cc pc = .ok (.iastore, 1)) (kk : ∀ st1 : ST, st1 = sA st 1 (upd (st.2.1 1) i.toNatClampNeg v) → ∀ (H : Heap) (locs : List Loc), Now G s (MW G ad st1 ++ ex) H locs → W p l e (RM k) s m args below meth c H locs 0 0 Q (F0 m (pc + 1) ls rest)) : W p l e (RM k) s m args below meth c H locs 0 0 Q (F0 m pc ls (.int v :: .int i :: .ref (ad 2) :: rest)) :=
  va_iast F.1 F.2.1 F.2.2.2.2.2.1 N.1 N.2.1 N.2.2 2 0 rfl rfl hi hd (fun H locs hP hD hS => kk _ rfl H locs ⟨hP, hD, hS⟩)
theorem smN_1 {j : Nat} {v : Int32} (F : FX p s m args c cc nL own G) (N : Now G s (MW G ad st ++ ex) H locs) (hj : j < 900) (hd : decode cc pc = .ok (.iastore, 1)) (kk : ∀ st1 : ST, st1 = sA st 1 (upd (st.2.1 1) j v) → ∀ (H : Heap) (locs : List Loc), Now G s (MW G ad st1 ++ ex) H locs → W p l e (RM k) s m args below meth c H locs 0 0 Q (F0 m (pc + 1) ls rest)) : W p l e (RM k) s m args below meth c H locs 0 0 Q (F0 m pc ls (.int v :: .int (nI j) :: .ref (ad 2) :: rest)) :=
  sm_1 F N (vp_in_nI hj (by decide)) hd (by rw [nI_clamp (show j < 2 ^ 31 by omega)]; exact kk)
theorem am_2 {i : Int32} (F : FX p s m args c cc nL own G) (N : Now G s (MW G ad st ++ ex) H locs) (hi : vp_in i 5400) (hd : decode cc pc = .ok (.iaload, 1)) (kk : W p l e (RM k) s m args below meth c H locs 0 0 Q (F0 m (pc + 1) ls (.int (st.2.1 2 i.toNatClampNeg) :: rest))) : W p l e (RM k) s m args below meth c H locs 0 0 Q (F0 m pc ls (.int i :: .ref (ad 3) :: rest)) :=
  va_iald F.1 F.2.1 F.2.2.2.2.2.1 N.1 3 0 rfl rfl hi hd kk
theorem amN_2 {j : Nat} (F : FX p s m args c cc nL own G) (N : Now G s (MW G ad st ++ ex) H locs) (hj : j < 5400) (hd : decode cc pc = .ok (.iaload, 1)) (kk : W p l e (RM k) s m args below meth c H locs 0 0 Q (F0 m (pc + 1) ls (.int (st.2.1 2 j) :: rest))) : W p l e (RM k) s m args below meth c H locs 0 0 Q (F0 m pc ls (.int (nI j) :: .ref (ad 3) :: rest)) :=
  am_2 F N (vp_in_nI hj (by decide)) hd (by rw [nI_clamp (show j < 2 ^ 31 by omega)]; exact kk)
theorem sm_2 {i v : Int32} (F : FX p s m args c cc nL own G) (N : Now G s (MW G ad st ++ ex) H locs) (hi : vp_in i 5400) (hd : decode cc pc = .ok (.iastore, 1)) (kk : ∀ st1 : ST, st1 = sA st 2 (upd (st.2.1 2) i.toNatClampNeg v) → ∀ (H : Heap) (locs : List Loc), Now G s (MW G ad st1 ++ ex) H locs → W p l e (RM k) s m args below meth c H locs 0 0 Q (F0 m (pc + 1) ls rest)) : W p l e (RM k) s m args below meth c H locs 0 0 Q (F0 m pc ls (.int v :: .int i :: .ref (ad 3) :: rest)) :=
  va_iast F.1 F.2.1 F.2.2.2.2.2.1 N.1 N.2.1 N.2.2 3 0 rfl rfl hi hd (fun H locs hP hD hS => kk _ rfl H locs ⟨hP, hD, hS⟩)
theorem smN_2 {j : Nat} {v : Int32} (F : FX p s m args c cc nL own G) (N : Now G s (MW G ad st ++ ex) H locs) (hj : j < 5400) (hd : decode cc pc = .ok (.iastore, 1)) (kk : ∀ st1 : ST, st1 = sA st 2 (upd (st.2.1 2) j v) → ∀ (H : Heap) (locs : List Loc), Now G s (MW G ad st1 ++ ex) H locs → W p l e (RM k) s m args below meth c H locs 0 0 Q (F0 m (pc + 1) ls rest)) : W p l e (RM k) s m args below meth c H locs 0 0 Q (F0 m pc ls (.int v :: .int (nI j) :: .ref (ad 3) :: rest)) :=
  sm_2 F N (vp_in_nI hj (by decide)) hd (by rw [nI_clamp (show j < 2 ^ 31 by omega)]; exact kk)
theorem am_3 {i : Int32} (F : FX p s m args c cc nL own G) (N : Now G s (MW G ad st ++ ex) H locs) (hi : vp_in i 3) (hd : decode cc pc = .ok (.iaload, 1)) (kk : W p l e (RM k) s m args below meth c H locs 0 0 Q (F0 m (pc + 1) ls (.int (st.2.1 3 i.toNatClampNeg) :: rest))) : W p l e (RM k) s m args below meth c H locs 0 0 Q (F0 m pc ls (.int i :: .ref (ad 4) :: rest)) :=
  va_iald F.1 F.2.1 F.2.2.2.2.2.1 N.1 4 0 rfl rfl hi hd kk
theorem amN_3 {j : Nat} (F : FX p s m args c cc nL own G) (N : Now G s (MW G ad st ++ ex) H locs) (hj : j < 3) (hd : decode cc pc = .ok (.iaload, 1)) (kk : W p l e (RM k) s m args below meth c H locs 0 0 Q (F0 m (pc + 1) ls (.int (st.2.1 3 j) :: rest))) : W p l e (RM k) s m args below meth c H locs 0 0 Q (F0 m pc ls (.int (nI j) :: .ref (ad 4) :: rest)) :=
  am_3 F N (vp_in_nI hj (by decide)) hd (by rw [nI_clamp (show j < 2 ^ 31 by omega)]; exact kk)
theorem sm_3 {i v : Int32} (F : FX p s m args c cc nL own G) (N : Now G s (MW G ad st ++ ex) H locs) (hi : vp_in i 3) (hd : decode cc pc = .ok (.iastore, 1)) (kk : ∀ st1 : ST, st1 = sA st 3 (upd (st.2.1 3) i.toNatClampNeg v) → ∀ (H : Heap) (locs : List Loc), Now G s (MW G ad st1 ++ ex) H locs → W p l e (RM k) s m args below meth c H locs 0 0 Q (F0 m (pc + 1) ls rest)) : W p l e (RM k) s m args below meth c H locs 0 0 Q (F0 m pc ls (.int v :: .int i :: .ref (ad 4) :: rest)) :=
  va_iast F.1 F.2.1 F.2.2.2.2.2.1 N.1 N.2.1 N.2.2 4 0 rfl rfl hi hd (fun H locs hP hD hS => kk _ rfl H locs ⟨hP, hD, hS⟩)
theorem smN_3 {j : Nat} {v : Int32} (F : FX p s m args c cc nL own G) (N : Now G s (MW G ad st ++ ex) H locs) (hj : j < 3) (hd : decode cc pc = .ok (.iastore, 1)) (kk : ∀ st1 : ST, st1 = sA st 3 (upd (st.2.1 3) j v) → ∀ (H : Heap) (locs : List Loc), Now G s (MW G ad st1 ++ ex) H locs → W p l e (RM k) s m args below meth c H locs 0 0 Q (F0 m (pc + 1) ls rest)) : W p l e (RM k) s m args below meth c H locs 0 0 Q (F0 m pc ls (.int v :: .int (nI j) :: .ref (ad 4) :: rest)) :=
  sm_3 F N (vp_in_nI hj (by decide)) hd (by rw [nI_clamp (show j < 2 ^ 31 by omega)]; exact kk)
theorem am_4 {i : Int32} (F : FX p s m args c cc nL own G) (N : Now G s (MW G ad st ++ ex) H locs) (hi : vp_in i 60) (hd : decode cc pc = .ok (.iaload, 1)) (kk : W p l e (RM k) s m args below meth c H locs 0 0 Q (F0 m (pc + 1) ls (.int (st.2.1 4 i.toNatClampNeg) :: rest))) : W p l e (RM k) s m args below meth c H locs 0 0 Q (F0 m pc ls (.int i :: .ref (ad 5) :: rest)) :=
  va_iald F.1 F.2.1 F.2.2.2.2.2.1 N.1 5 0 rfl rfl hi hd kk
theorem amN_4 {j : Nat} (F : FX p s m args c cc nL own G) (N : Now G s (MW G ad st ++ ex) H locs) (hj : j < 60) (hd : decode cc pc = .ok (.iaload, 1)) (kk : W p l e (RM k) s m args below meth c H locs 0 0 Q (F0 m (pc + 1) ls (.int (st.2.1 4 j) :: rest))) : W p l e (RM k) s m args below meth c H locs 0 0 Q (F0 m pc ls (.int (nI j) :: .ref (ad 5) :: rest)) :=
  am_4 F N (vp_in_nI hj (by decide)) hd (by rw [nI_clamp (show j < 2 ^ 31 by omega)]; exact kk)
theorem sm_4 {i v : Int32} (F : FX p s m args c cc nL own G) (N : Now G s (MW G ad st ++ ex) H locs) (hi : vp_in i 60) (hd : decode cc pc = .ok (.iastore, 1)) (kk : ∀ st1 : ST, st1 = sA st 4 (upd (st.2.1 4) i.toNatClampNeg v) → ∀ (H : Heap) (locs : List Loc), Now G s (MW G ad st1 ++ ex) H locs → W p l e (RM k) s m args below meth c H locs 0 0 Q (F0 m (pc + 1) ls rest)) : W p l e (RM k) s m args below meth c H locs 0 0 Q (F0 m pc ls (.int v :: .int i :: .ref (ad 5) :: rest)) :=
  va_iast F.1 F.2.1 F.2.2.2.2.2.1 N.1 N.2.1 N.2.2 5 0 rfl rfl hi hd (fun H locs hP hD hS => kk _ rfl H locs ⟨hP, hD, hS⟩)
theorem smN_4 {j : Nat} {v : Int32} (F : FX p s m args c cc nL own G) (N : Now G s (MW G ad st ++ ex) H locs) (hj : j < 60) (hd : decode cc pc = .ok (.iastore, 1)) (kk : ∀ st1 : ST, st1 = sA st 4 (upd (st.2.1 4) j v) → ∀ (H : Heap) (locs : List Loc), Now G s (MW G ad st1 ++ ex) H locs → W p l e (RM k) s m args below meth c H locs 0 0 Q (F0 m (pc + 1) ls rest)) : W p l e (RM k) s m args below meth c H locs 0 0 Q (F0 m pc ls (.int v :: .int (nI j) :: .ref (ad 5) :: rest)) :=
  sm_4 F N (vp_in_nI hj (by decide)) hd (by rw [nI_clamp (show j < 2 ^ 31 by omega)]; exact kk)
theorem am_5 {i : Int32} (F : FX p s m args c cc nL own G) (N : Now G s (MW G ad st ++ ex) H locs) (hi : vp_in i 25) (hd : decode cc pc = .ok (.iaload, 1)) (kk : W p l e (RM k) s m args below meth c H locs 0 0 Q (F0 m (pc + 1) ls (.int (st.2.1 5 i.toNatClampNeg) :: rest))) : W p l e (RM k) s m args below meth c H locs 0 0 Q (F0 m pc ls (.int i :: .ref (ad 6) :: rest)) :=
  va_iald F.1 F.2.1 F.2.2.2.2.2.1 N.1 6 0 rfl rfl hi hd kk
theorem amN_5 {j : Nat} (F : FX p s m args c cc nL own G) (N : Now G s (MW G ad st ++ ex) H locs) (hj : j < 25) (hd : decode cc pc = .ok (.iaload, 1)) (kk : W p l e (RM k) s m args below meth c H locs 0 0 Q (F0 m (pc + 1) ls (.int (st.2.1 5 j) :: rest))) : W p l e (RM k) s m args below meth c H locs 0 0 Q (F0 m pc ls (.int (nI j) :: .ref (ad 6) :: rest)) :=
  am_5 F N (vp_in_nI hj (by decide)) hd (by rw [nI_clamp (show j < 2 ^ 31 by omega)]; exact kk)
theorem sm_5 {i v : Int32} (F : FX p s m args c cc nL own G) (N : Now G s (MW G ad st ++ ex) H locs) (hi : vp_in i 25) (hd : decode cc pc = .ok (.iastore, 1)) (kk : ∀ st1 : ST, st1 = sA st 5 (upd (st.2.1 5) i.toNatClampNeg v) → ∀ (H : Heap) (locs : List Loc), Now G s (MW G ad st1 ++ ex) H locs → W p l e (RM k) s m args below meth c H locs 0 0 Q (F0 m (pc + 1) ls rest)) : W p l e (RM k) s m args below meth c H locs 0 0 Q (F0 m pc ls (.int v :: .int i :: .ref (ad 6) :: rest)) :=
  va_iast F.1 F.2.1 F.2.2.2.2.2.1 N.1 N.2.1 N.2.2 6 0 rfl rfl hi hd (fun H locs hP hD hS => kk _ rfl H locs ⟨hP, hD, hS⟩)
theorem smN_5 {j : Nat} {v : Int32} (F : FX p s m args c cc nL own G) (N : Now G s (MW G ad st ++ ex) H locs) (hj : j < 25) (hd : decode cc pc = .ok (.iastore, 1)) (kk : ∀ st1 : ST, st1 = sA st 5 (upd (st.2.1 5) j v) → ∀ (H : Heap) (locs : List Loc), Now G s (MW G ad st1 ++ ex) H locs → W p l e (RM k) s m args below meth c H locs 0 0 Q (F0 m (pc + 1) ls rest)) : W p l e (RM k) s m args below meth c H locs 0 0 Q (F0 m pc ls (.int v :: .int (nI j) :: .ref (ad 6) :: rest)) :=
  sm_5 F N (vp_in_nI hj (by decide)) hd (by rw [nI_clamp (show j < 2 ^ 31 by omega)]; exact kk)
theorem am_6 {i : Int32} (F : FX p s m args c cc nL own G) (N : Now G s (MW G ad st ++ ex) H locs) (hi : vp_in i 60) (hd : decode cc pc = .ok (.iaload, 1)) (kk : W p l e (RM k) s m args below meth c H locs 0 0 Q (F0 m (pc + 1) ls (.int (st.2.1 6 i.toNatClampNeg) :: rest))) : W p l e (RM k) s m args below meth c H locs 0 0 Q (F0 m pc ls (.int i :: .ref (ad 7) :: rest)) :=
  va_iald F.1 F.2.1 F.2.2.2.2.2.1 N.1 7 0 rfl rfl hi hd kk
theorem amN_6 {j : Nat} (F : FX p s m args c cc nL own G) (N : Now G s (MW G ad st ++ ex) H locs) (hj : j < 60) (hd : decode cc pc = .ok (.iaload, 1)) (kk : W p l e (RM k) s m args below meth c H locs 0 0 Q (F0 m (pc + 1) ls (.int (st.2.1 6 j) :: rest))) : W p l e (RM k) s m args below meth c H locs 0 0 Q (F0 m pc ls (.int (nI j) :: .ref (ad 7) :: rest)) :=
  am_6 F N (vp_in_nI hj (by decide)) hd (by rw [nI_clamp (show j < 2 ^ 31 by omega)]; exact kk)
theorem sm_6 {i v : Int32} (F : FX p s m args c cc nL own G) (N : Now G s (MW G ad st ++ ex) H locs) (hi : vp_in i 60) (hd : decode cc pc = .ok (.iastore, 1)) (kk : ∀ st1 : ST, st1 = sA st 6 (upd (st.2.1 6) i.toNatClampNeg v) → ∀ (H : Heap) (locs : List Loc), Now G s (MW G ad st1 ++ ex) H locs → W p l e (RM k) s m args below meth c H locs 0 0 Q (F0 m (pc + 1) ls rest)) : W p l e (RM k) s m args below meth c H locs 0 0 Q (F0 m pc ls (.int v :: .int i :: .ref (ad 7) :: rest)) :=
  va_iast F.1 F.2.1 F.2.2.2.2.2.1 N.1 N.2.1 N.2.2 7 0 rfl rfl hi hd (fun H locs hP hD hS => kk _ rfl H locs ⟨hP, hD, hS⟩)
theorem smN_6 {j : Nat} {v : Int32} (F : FX p s m args c cc nL own G) (N : Now G s (MW G ad st ++ ex) H locs) (hj : j < 60) (hd : decode cc pc = .ok (.iastore, 1)) (kk : ∀ st1 : ST, st1 = sA st 6 (upd (st.2.1 6) j v) → ∀ (H : Heap) (locs : List Loc), Now G s (MW G ad st1 ++ ex) H locs → W p l e (RM k) s m args below meth c H locs 0 0 Q (F0 m (pc + 1) ls rest)) : W p l e (RM k) s m args below meth c H locs 0 0 Q (F0 m pc ls (.int v :: .int (nI j) :: .ref (ad 7) :: rest)) :=
  sm_6 F N (vp_in_nI hj (by decide)) hd (by rw [nI_clamp (show j < 2 ^ 31 by omega)]; exact kk)
theorem am_7 {i : Int32} (F : FX p s m args c cc nL own G) (N : Now G s (MW G ad st ++ ex) H locs) (hi : vp_in i 36) (hd : decode cc pc = .ok (.iaload, 1)) (kk : W p l e (RM k) s m args below meth c H locs 0 0 Q (F0 m (pc + 1) ls (.int (st.2.1 7 i.toNatClampNeg) :: rest))) : W p l e (RM k) s m args below meth c H locs 0 0 Q (F0 m pc ls (.int i :: .ref (ad 8) :: rest)) :=
  va_iald F.1 F.2.1 F.2.2.2.2.2.1 N.1 8 0 rfl rfl hi hd kk
theorem amN_7 {j : Nat} (F : FX p s m args c cc nL own G) (N : Now G s (MW G ad st ++ ex) H locs) (hj : j < 36) (hd : decode cc pc = .ok (.iaload, 1)) (kk : W p l e (RM k) s m args below meth c H locs 0 0 Q (F0 m (pc + 1) ls (.int (st.2.1 7 j) :: rest))) : W p l e (RM k) s m args below meth c H locs 0 0 Q (F0 m pc ls (.int (nI j) :: .ref (ad 8) :: rest)) :=
  am_7 F N (vp_in_nI hj (by decide)) hd (by rw [nI_clamp (show j < 2 ^ 31 by omega)]; exact kk)
theorem sm_7 {i v : Int32} (F : FX p s m args c cc nL own G) (N : Now G s (MW G ad st ++ ex) H locs) (hi : vp_in i 36) (hd : decode cc pc = .ok (.iastore, 1)) (kk : ∀ st1 : ST, st1 = sA st 7 (upd (st.2.1 7) i.toNatClampNeg v) → ∀ (H : Heap) (locs : List Loc), Now G s (MW G ad st1 ++ ex) H locs → W p l e (RM k) s m args below meth c H locs 0 0 Q (F0 m (pc + 1) ls rest)) : W p l e (RM k) s m args below meth c H locs 0 0 Q (F0 m pc ls (.int v :: .int i :: .ref (ad 8) :: rest)) :=
  va_iast F.1 F.2.1 F.2.2.2.2.2.1 N.1 N.2.1 N.2.2 8 0 rfl rfl hi hd (fun H locs hP hD hS => kk _ rfl H locs ⟨hP, hD, hS⟩)
theorem smN_7 {j : Nat} {v : Int32} (F : FX p s m args c cc nL own G) (N : Now G s (MW G ad st ++ ex) H locs) (hj : j < 36) (hd : decode cc pc = .ok (.iastore, 1)) (kk : ∀ st1 : ST, st1 = sA st 7 (upd (st.2.1 7) j v) → ∀ (H : Heap) (locs : List Loc), Now G s (MW G ad st1 ++ ex) H locs → W p l e (RM k) s m args below meth c H locs 0 0 Q (F0 m (pc + 1) ls rest)) : W p l e (RM k) s m args below meth c H locs 0 0 Q (F0 m pc ls (.int v :: .int (nI j) :: .ref (ad 8) :: rest)) :=
  sm_7 F N (vp_in_nI hj (by decide)) hd (by rw [nI_clamp (show j < 2 ^ 31 by omega)]; exact kk)
theorem am_8 {i : Int32} (F : FX p s m args c cc nL own G) (N : Now G s (MW G ad st ++ ex) H locs) (hi : vp_in i 36) (hd : decode cc pc = .ok (.iaload, 1)) (kk : W p l e (RM k) s m args below meth c H locs 0 0 Q (F0 m (pc + 1) ls (.int (st.2.1 8 i.toNatClampNeg) :: rest))) : W p l e (RM k) s m args below meth c H locs 0 0 Q (F0 m pc ls (.int i :: .ref (ad 9) :: rest)) :=
  va_iald F.1 F.2.1 F.2.2.2.2.2.1 N.1 9 0 rfl rfl hi hd kk
theorem amN_8 {j : Nat} (F : FX p s m args c cc nL own G) (N : Now G s (MW G ad st ++ ex) H locs) (hj : j < 36) (hd : decode cc pc = .ok (.iaload, 1)) (kk : W p l e (RM k) s m args below meth c H locs 0 0 Q (F0 m (pc + 1) ls (.int (st.2.1 8 j) :: rest))) : W p l e (RM k) s m args below meth c H locs 0 0 Q (F0 m pc ls (.int (nI j) :: .ref (ad 9) :: rest)) :=
  am_8 F N (vp_in_nI hj (by decide)) hd (by rw [nI_clamp (show j < 2 ^ 31 by omega)]; exact kk)
theorem sm_8 {i v : Int32} (F : FX p s m args c cc nL own G) (N : Now G s (MW G ad st ++ ex) H locs) (hi : vp_in i 36) (hd : decode cc pc = .ok (.iastore, 1)) (kk : ∀ st1 : ST, st1 = sA st 8 (upd (st.2.1 8) i.toNatClampNeg v) → ∀ (H : Heap) (locs : List Loc), Now G s (MW G ad st1 ++ ex) H locs → W p l e (RM k) s m args below meth c H locs 0 0 Q (F0 m (pc + 1) ls rest)) : W p l e (RM k) s m args below meth c H locs 0 0 Q (F0 m pc ls (.int v :: .int i :: .ref (ad 9) :: rest)) :=
  va_iast F.1 F.2.1 F.2.2.2.2.2.1 N.1 N.2.1 N.2.2 9 0 rfl rfl hi hd (fun H locs hP hD hS => kk _ rfl H locs ⟨hP, hD, hS⟩)
theorem smN_8 {j : Nat} {v : Int32} (F : FX p s m args c cc nL own G) (N : Now G s (MW G ad st ++ ex) H locs) (hj : j < 36) (hd : decode cc pc = .ok (.iastore, 1)) (kk : ∀ st1 : ST, st1 = sA st 8 (upd (st.2.1 8) j v) → ∀ (H : Heap) (locs : List Loc), Now G s (MW G ad st1 ++ ex) H locs → W p l e (RM k) s m args below meth c H locs 0 0 Q (F0 m (pc + 1) ls rest)) : W p l e (RM k) s m args below meth c H locs 0 0 Q (F0 m pc ls (.int v :: .int (nI j) :: .ref (ad 9) :: rest)) :=
  sm_8 F N (vp_in_nI hj (by decide)) hd (by rw [nI_clamp (show j < 2 ^ 31 by omega)]; exact kk)
theorem am_9 {i : Int32} (F : FX p s m args c cc nL own G) (N : Now G s (MW G ad st ++ ex) H locs) (hi : vp_in i 36) (hd : decode cc pc = .ok (.iaload, 1)) (kk : W p l e (RM k) s m args below meth c H locs 0 0 Q (F0 m (pc + 1) ls (.int (st.2.1 9 i.toNatClampNeg) :: rest))) : W p l e (RM k) s m args below meth c H locs 0 0 Q (F0 m pc ls (.int i :: .ref (ad 10) :: rest)) :=
  va_iald F.1 F.2.1 F.2.2.2.2.2.1 N.1 10 0 rfl rfl hi hd kk
theorem amN_9 {j : Nat} (F : FX p s m args c cc nL own G) (N : Now G s (MW G ad st ++ ex) H locs) (hj : j < 36) (hd : decode cc pc = .ok (.iaload, 1)) (kk : W p l e (RM k) s m args below meth c H locs 0 0 Q (F0 m (pc + 1) ls (.int (st.2.1 9 j) :: rest))) : W p l e (RM k) s m args below meth c H locs 0 0 Q (F0 m pc ls (.int (nI j) :: .ref (ad 10) :: rest)) :=
  am_9 F N (vp_in_nI hj (by decide)) hd (by rw [nI_clamp (show j < 2 ^ 31 by omega)]; exact kk)
theorem sm_9 {i v : Int32} (F : FX p s m args c cc nL own G) (N : Now G s (MW G ad st ++ ex) H locs) (hi : vp_in i 36) (hd : decode cc pc = .ok (.iastore, 1)) (kk : ∀ st1 : ST, st1 = sA st 9 (upd (st.2.1 9) i.toNatClampNeg v) → ∀ (H : Heap) (locs : List Loc), Now G s (MW G ad st1 ++ ex) H locs → W p l e (RM k) s m args below meth c H locs 0 0 Q (F0 m (pc + 1) ls rest)) : W p l e (RM k) s m args below meth c H locs 0 0 Q (F0 m pc ls (.int v :: .int i :: .ref (ad 10) :: rest)) :=
  va_iast F.1 F.2.1 F.2.2.2.2.2.1 N.1 N.2.1 N.2.2 10 0 rfl rfl hi hd (fun H locs hP hD hS => kk _ rfl H locs ⟨hP, hD, hS⟩)
theorem smN_9 {j : Nat} {v : Int32} (F : FX p s m args c cc nL own G) (N : Now G s (MW G ad st ++ ex) H locs) (hj : j < 36) (hd : decode cc pc = .ok (.iastore, 1)) (kk : ∀ st1 : ST, st1 = sA st 9 (upd (st.2.1 9) j v) → ∀ (H : Heap) (locs : List Loc), Now G s (MW G ad st1 ++ ex) H locs → W p l e (RM k) s m args below meth c H locs 0 0 Q (F0 m (pc + 1) ls rest)) : W p l e (RM k) s m args below meth c H locs 0 0 Q (F0 m pc ls (.int v :: .int (nI j) :: .ref (ad 10) :: rest)) :=
  sm_9 F N (vp_in_nI hj (by decide)) hd (by rw [nI_clamp (show j < 2 ^ 31 by omega)]; exact kk)
theorem am_10 {i : Int32} (F : FX p s m args c cc nL own G) (N : Now G s (MW G ad st ++ ex) H locs) (hi : vp_in i 36) (hd : decode cc pc = .ok (.iaload, 1)) (kk : W p l e (RM k) s m args below meth c H locs 0 0 Q (F0 m (pc + 1) ls (.int (st.2.1 10 i.toNatClampNeg) :: rest))) : W p l e (RM k) s m args below meth c H locs 0 0 Q (F0 m pc ls (.int i :: .ref (ad 11) :: rest)) :=
  va_iald F.1 F.2.1 F.2.2.2.2.2.1 N.1 11 0 rfl rfl hi hd kk
theorem amN_10 {j : Nat} (F : FX p s m args c cc nL own G) (N : Now G s (MW G ad st ++ ex) H locs) (hj : j < 36) (hd : decode cc pc = .ok (.iaload, 1)) (kk : W p l e (RM k) s m args below meth c H locs 0 0 Q (F0 m (pc + 1) ls (.int (st.2.1 10 j) :: rest))) : W p l e (RM k) s m args below meth c H locs 0 0 Q (F0 m pc ls (.int (nI j) :: .ref (ad 11) :: rest)) :=
  am_10 F N (vp_in_nI hj (by decide)) hd (by rw [nI_clamp (show j < 2 ^ 31 by omega)]; exact kk)
theorem sm_10 {i v : Int32} (F : FX p s m args c cc nL own G) (N : Now G s (MW G ad st ++ ex) H locs) (hi : vp_in i 36) (hd : decode cc pc = .ok (.iastore, 1)) (kk : ∀ st1 : ST, st1 = sA st 10 (upd (st.2.1 10) i.toNatClampNeg v) → ∀ (H : Heap) (locs : List Loc), Now G s (MW G ad st1 ++ ex) H locs → W p l e (RM k) s m args below meth c H locs 0 0 Q (F0 m (pc + 1) ls rest)) : W p l e (RM k) s m args below meth c H locs 0 0 Q (F0 m pc ls (.int v :: .int i :: .ref (ad 11) :: rest)) :=
  va_iast F.1 F.2.1 F.2.2.2.2.2.1 N.1 N.2.1 N.2.2 11 0 rfl rfl hi hd (fun H locs hP hD hS => kk _ rfl H locs ⟨hP, hD, hS⟩)
theorem smN_10 {j : Nat} {v : Int32} (F : FX p s m args c cc nL own G) (N : Now G s (MW G ad st ++ ex) H locs) (hj : j < 36) (hd : decode cc pc = .ok (.iastore, 1)) (kk : ∀ st1 : ST, st1 = sA st 10 (upd (st.2.1 10) j v) → ∀ (H : Heap) (locs : List Loc), Now G s (MW G ad st1 ++ ex) H locs → W p l e (RM k) s m args below meth c H locs 0 0 Q (F0 m (pc + 1) ls rest)) : W p l e (RM k) s m args below meth c H locs 0 0 Q (F0 m pc ls (.int v :: .int (nI j) :: .ref (ad 11) :: rest)) :=
  sm_10 F N (vp_in_nI hj (by decide)) hd (by rw [nI_clamp (show j < 2 ^ 31 by omega)]; exact kk)
theorem am_11 {i : Int32} (F : FX p s m args c cc nL own G) (N : Now G s (MW G ad st ++ ex) H locs) (hi : vp_in i 36) (hd : decode cc pc = .ok (.iaload, 1)) (kk : W p l e (RM k) s m args below meth c H locs 0 0 Q (F0 m (pc + 1) ls (.int (st.2.1 11 i.toNatClampNeg) :: rest))) : W p l e (RM k) s m args below meth c H locs 0 0 Q (F0 m pc ls (.int i :: .ref (ad 12) :: rest)) :=
  va_iald F.1 F.2.1 F.2.2.2.2.2.1 N.1 12 0 rfl rfl hi hd kk
theorem amN_11 {j : Nat} (F : FX p s m args c cc nL own G) (N : Now G s (MW G ad st ++ ex) H locs) (hj : j < 36) (hd : decode cc pc = .ok (.iaload, 1)) (kk : W p l e (RM k) s m args below meth c H locs 0 0 Q (F0 m (pc + 1) ls (.int (st.2.1 11 j) :: rest))) : W p l e (RM k) s m args below meth c H locs 0 0 Q (F0 m pc ls (.int (nI j) :: .ref (ad 12) :: rest)) :=
  am_11 F N (vp_in_nI hj (by decide)) hd (by rw [nI_clamp (show j < 2 ^ 31 by omega)]; exact kk)
theorem sm_11 {i v : Int32} (F : FX p s m args c cc nL own G) (N : Now G s (MW G ad st ++ ex) H locs) (hi : vp_in i 36) (hd : decode cc pc = .ok (.iastore, 1)) (kk : ∀ st1 : ST, st1 = sA st 11 (upd (st.2.1 11) i.toNatClampNeg v) → ∀ (H : Heap) (locs : List Loc), Now G s (MW G ad st1 ++ ex) H locs → W p l e (RM k) s m args below meth c H locs 0 0 Q (F0 m (pc + 1) ls rest)) : W p l e (RM k) s m args below meth c H locs 0 0 Q (F0 m pc ls (.int v :: .int i :: .ref (ad 12) :: rest)) :=
  va_iast F.1 F.2.1 F.2.2.2.2.2.1 N.1 N.2.1 N.2.2 12 0 rfl rfl hi hd (fun H locs hP hD hS => kk _ rfl H locs ⟨hP, hD, hS⟩)
theorem smN_11 {j : Nat} {v : Int32} (F : FX p s m args c cc nL own G) (N : Now G s (MW G ad st ++ ex) H locs) (hj : j < 36) (hd : decode cc pc = .ok (.iastore, 1)) (kk : ∀ st1 : ST, st1 = sA st 11 (upd (st.2.1 11) j v) → ∀ (H : Heap) (locs : List Loc), Now G s (MW G ad st1 ++ ex) H locs → W p l e (RM k) s m args below meth c H locs 0 0 Q (F0 m (pc + 1) ls rest)) : W p l e (RM k) s m args below meth c H locs 0 0 Q (F0 m pc ls (.int v :: .int (nI j) :: .ref (ad 12) :: rest)) :=
  sm_11 F N (vp_in_nI hj (by decide)) hd (by rw [nI_clamp (show j < 2 ^ 31 by omega)]; exact kk)
theorem am_12 {i : Int32} (F : FX p s m args c cc nL own G) (N : Now G s (MW G ad st ++ ex) H locs) (hi : vp_in i 36) (hd : decode cc pc = .ok (.iaload, 1)) (kk : W p l e (RM k) s m args below meth c H locs 0 0 Q (F0 m (pc + 1) ls (.int (st.2.1 12 i.toNatClampNeg) :: rest))) : W p l e (RM k) s m args below meth c H locs 0 0 Q (F0 m pc ls (.int i :: .ref (ad 13) :: rest)) :=
  va_iald F.1 F.2.1 F.2.2.2.2.2.1 N.1 13 0 rfl rfl hi hd kk
theorem amN_12 {j : Nat} (F : FX p s m args c cc nL own G) (N : Now G s (MW G ad st ++ ex) H locs) (hj : j < 36) (hd : decode cc pc = .ok (.iaload, 1)) (kk : W p l e (RM k) s m args below meth c H locs 0 0 Q (F0 m (pc + 1) ls (.int (st.2.1 12 j) :: rest))) : W p l e (RM k) s m args below meth c H locs 0 0 Q (F0 m pc ls (.int (nI j) :: .ref (ad 13) :: rest)) :=
  am_12 F N (vp_in_nI hj (by decide)) hd (by rw [nI_clamp (show j < 2 ^ 31 by omega)]; exact kk)
theorem sm_12 {i v : Int32} (F : FX p s m args c cc nL own G) (N : Now G s (MW G ad st ++ ex) H locs) (hi : vp_in i 36) (hd : decode cc pc = .ok (.iastore, 1)) (kk : ∀ st1 : ST, st1 = sA st 12 (upd (st.2.1 12) i.toNatClampNeg v) → ∀ (H : Heap) (locs : List Loc), Now G s (MW G ad st1 ++ ex) H locs → W p l e (RM k) s m args below meth c H locs 0 0 Q (F0 m (pc + 1) ls rest)) : W p l e (RM k) s m args below meth c H locs 0 0 Q (F0 m pc ls (.int v :: .int i :: .ref (ad 13) :: rest)) :=
  va_iast F.1 F.2.1 F.2.2.2.2.2.1 N.1 N.2.1 N.2.2 13 0 rfl rfl hi hd (fun H locs hP hD hS => kk _ rfl H locs ⟨hP, hD, hS⟩)
theorem smN_12 {j : Nat} {v : Int32} (F : FX p s m args c cc nL own G) (N : Now G s (MW G ad st ++ ex) H locs) (hj : j < 36) (hd : decode cc pc = .ok (.iastore, 1)) (kk : ∀ st1 : ST, st1 = sA st 12 (upd (st.2.1 12) j v) → ∀ (H : Heap) (locs : List Loc), Now G s (MW G ad st1 ++ ex) H locs → W p l e (RM k) s m args below meth c H locs 0 0 Q (F0 m (pc + 1) ls rest)) : W p l e (RM k) s m args below meth c H locs 0 0 Q (F0 m pc ls (.int v :: .int (nI j) :: .ref (ad 13) :: rest)) :=
  sm_12 F N (vp_in_nI hj (by decide)) hd (by rw [nI_clamp (show j < 2 ^ 31 by omega)]; exact kk)
theorem cx_1_2 {sp dp n : Nat} (F : FX p s m args c cc nL own G) (N : Now G s (XW G ad st ++ ex) H locs) (hsz : ls.size = nL) (hl : Cond.methodLink own idx arraycopyName ∈ goodT) (h4 : sp + n ≤ 4) (h5 : dp + n ≤ 144) (hk : 0 < k) (hrest : (rest.map fun v => v.category).sum ≤ 8) (hd : decode cc pc = .ok (.invokestatic idx, 3)) (kk : ∀ st1 : ST, st1 = sA st 2 (va_cpy (st.2.1 1) (st.2.1 2) sp dp n) → ∀ (H : Heap) (locs : List Loc), Now G s (XW G ad st1 ++ ex) H locs → W p l e (RM k) s m args below meth c H locs 0 0 Q (F0 m (pc + 3) ls rest)) : W p l e (RM k) s m args below meth c H locs 0 0 Q (F0 m pc ls (.int (nI n) :: .int (nI dp) :: .ref (ad 9) :: .int (nI sp) :: .ref (ad 8) :: rest)) := by
  have e1 := nI_clamp (show sp < 2 ^ 31 by omega)
  have e2 := nI_clamp (show dp < 2 ^ 31 by omega)
  have e3 := nI_clamp (show n < 2 ^ 31 by omega)
  refine va_copyi (ty := .int) F.1 F.2.1 (F.2.2.1.trans hsz.symm) F.2.2.2.1 (F.2.2.2.2.1 _ hl) (F.2.2.2.2.1 _ k_342) (F.2.2.2.2.1 _ k_341) (F.2.2.2.2.1 _ k_72) F.2.2.2.2.2.1 N.1 N.2.1 N.2.2 8 9 0 0 rfl rfl rfl rfl rfl (nI_pos (by omega)) (nI_pos (by omega)) (nI_pos (by omega)) (by rw [e1, e3]; exact h4) (by rw [e2, e3]; exact h5) (fun _ _ => rfl) (show 1 ≤ k from hk) (by show _ + (_ + 11) ≤ 64 * k; have h9 : nativeFrameWords "java/lang/System" "arraycopy" 5 ≤ 40 := (by decide +kernel); omega) hd (fun H locs hP hD hS => ?_)
  rw [e1, e2, e3] at hP hD
  exact kk _ rfl H locs ⟨hP, hD, hS⟩
theorem cx_2_3 {sp dp n : Nat} (F : FX p s m args c cc nL own G) (N : Now G s (XW G ad st ++ ex) H locs) (hsz : ls.size = nL) (hl : Cond.methodLink own idx arraycopyName ∈ goodT) (h4 : sp + n ≤ 144) (h5 : dp + n ≤ 144) (hk : 0 < k) (hrest : (rest.map fun v => v.category).sum ≤ 8) (hd : decode cc pc = .ok (.invokestatic idx, 3)) (kk : ∀ st1 : ST, st1 = sA st 3 (va_cpy (st.2.1 2) (st.2.1 3) sp dp n) → ∀ (H : Heap) (locs : List Loc), Now G s (XW G ad st1 ++ ex) H locs → W p l e (RM k) s m args below meth c H locs 0 0 Q (F0 m (pc + 3) ls rest)) : W p l e (RM k) s m args below meth c H locs 0 0 Q (F0 m pc ls (.int (nI n) :: .int (nI dp) :: .ref (ad 10) :: .int (nI sp) :: .ref (ad 9) :: rest)) := by
  have e1 := nI_clamp (show sp < 2 ^ 31 by omega)
  have e2 := nI_clamp (show dp < 2 ^ 31 by omega)
  have e3 := nI_clamp (show n < 2 ^ 31 by omega)
  refine va_copyi (ty := .int) F.1 F.2.1 (F.2.2.1.trans hsz.symm) F.2.2.2.1 (F.2.2.2.2.1 _ hl) (F.2.2.2.2.1 _ k_342) (F.2.2.2.2.1 _ k_341) (F.2.2.2.2.1 _ k_72) F.2.2.2.2.2.1 N.1 N.2.1 N.2.2 9 10 0 0 rfl rfl rfl rfl rfl (nI_pos (by omega)) (nI_pos (by omega)) (nI_pos (by omega)) (by rw [e1, e3]; exact h4) (by rw [e2, e3]; exact h5) (fun _ _ => rfl) (show 1 ≤ k from hk) (by show _ + (_ + 11) ≤ 64 * k; have h9 : nativeFrameWords "java/lang/System" "arraycopy" 5 ≤ 40 := (by decide +kernel); omega) hd (fun H locs hP hD hS => ?_)
  rw [e1, e2, e3] at hP hD
  exact kk _ rfl H locs ⟨hP, hD, hS⟩
theorem cx_3_2 {sp dp n : Nat} (F : FX p s m args c cc nL own G) (N : Now G s (XW G ad st ++ ex) H locs) (hsz : ls.size = nL) (hl : Cond.methodLink own idx arraycopyName ∈ goodT) (h4 : sp + n ≤ 144) (h5 : dp + n ≤ 144) (hk : 0 < k) (hrest : (rest.map fun v => v.category).sum ≤ 8) (hd : decode cc pc = .ok (.invokestatic idx, 3)) (kk : ∀ st1 : ST, st1 = sA st 2 (va_cpy (st.2.1 3) (st.2.1 2) sp dp n) → ∀ (H : Heap) (locs : List Loc), Now G s (XW G ad st1 ++ ex) H locs → W p l e (RM k) s m args below meth c H locs 0 0 Q (F0 m (pc + 3) ls rest)) : W p l e (RM k) s m args below meth c H locs 0 0 Q (F0 m pc ls (.int (nI n) :: .int (nI dp) :: .ref (ad 9) :: .int (nI sp) :: .ref (ad 10) :: rest)) := by
  have e1 := nI_clamp (show sp < 2 ^ 31 by omega)
  have e2 := nI_clamp (show dp < 2 ^ 31 by omega)
  have e3 := nI_clamp (show n < 2 ^ 31 by omega)
  refine va_copyi (ty := .int) F.1 F.2.1 (F.2.2.1.trans hsz.symm) F.2.2.2.1 (F.2.2.2.2.1 _ hl) (F.2.2.2.2.1 _ k_342) (F.2.2.2.2.1 _ k_341) (F.2.2.2.2.1 _ k_72) F.2.2.2.2.2.1 N.1 N.2.1 N.2.2 10 9 0 0 rfl rfl rfl rfl rfl (nI_pos (by omega)) (nI_pos (by omega)) (nI_pos (by omega)) (by rw [e1, e3]; exact h4) (by rw [e2, e3]; exact h5) (fun _ _ => rfl) (show 1 ≤ k from hk) (by show _ + (_ + 11) ≤ 64 * k; have h9 : nativeFrameWords "java/lang/System" "arraycopy" 5 ≤ 40 := (by decide +kernel); omega) hd (fun H locs hP hD hS => ?_)
  rw [e1, e2, e3] at hP hD
  exact kk _ rfl H locs ⟨hP, hD, hS⟩
theorem cx_2_4 {sp dp n : Nat} (F : FX p s m args c cc nL own G) (N : Now G s (XW G ad st ++ ex) H locs) (hsz : ls.size = nL) (hl : Cond.methodLink own idx arraycopyName ∈ goodT) (h4 : sp + n ≤ 144) (h5 : dp + n ≤ 864) (hk : 0 < k) (hrest : (rest.map fun v => v.category).sum ≤ 8) (hd : decode cc pc = .ok (.invokestatic idx, 3)) (kk : ∀ st1 : ST, st1 = sA st 4 (va_cpy (st.2.1 2) (st.2.1 4) sp dp n) → ∀ (H : Heap) (locs : List Loc), Now G s (XW G ad st1 ++ ex) H locs → W p l e (RM k) s m args below meth c H locs 0 0 Q (F0 m (pc + 3) ls rest)) : W p l e (RM k) s m args below meth c H locs 0 0 Q (F0 m pc ls (.int (nI n) :: .int (nI dp) :: .ref (ad 11) :: .int (nI sp) :: .ref (ad 9) :: rest)) := by
  have e1 := nI_clamp (show sp < 2 ^ 31 by omega)
  have e2 := nI_clamp (show dp < 2 ^ 31 by omega)
  have e3 := nI_clamp (show n < 2 ^ 31 by omega)
  refine va_copyi (ty := .int) F.1 F.2.1 (F.2.2.1.trans hsz.symm) F.2.2.2.1 (F.2.2.2.2.1 _ hl) (F.2.2.2.2.1 _ k_342) (F.2.2.2.2.1 _ k_341) (F.2.2.2.2.1 _ k_72) F.2.2.2.2.2.1 N.1 N.2.1 N.2.2 9 11 0 0 rfl rfl rfl rfl rfl (nI_pos (by omega)) (nI_pos (by omega)) (nI_pos (by omega)) (by rw [e1, e3]; exact h4) (by rw [e2, e3]; exact h5) (fun _ _ => rfl) (show 1 ≤ k from hk) (by show _ + (_ + 11) ≤ 64 * k; have h9 : nativeFrameWords "java/lang/System" "arraycopy" 5 ≤ 40 := (by decide +kernel); omega) hd (fun H locs hP hD hS => ?_)
  rw [e1, e2, e3] at hP hD
  exact kk _ rfl H locs ⟨hP, hD, hS⟩
theorem cx_4_2 {sp dp n : Nat} (F : FX p s m args c cc nL own G) (N : Now G s (XW G ad st ++ ex) H locs) (hsz : ls.size = nL) (hl : Cond.methodLink own idx arraycopyName ∈ goodT) (h4 : sp + n ≤ 864) (h5 : dp + n ≤ 144) (hk : 0 < k) (hrest : (rest.map fun v => v.category).sum ≤ 8) (hd : decode cc pc = .ok (.invokestatic idx, 3)) (kk : ∀ st1 : ST, st1 = sA st 2 (va_cpy (st.2.1 4) (st.2.1 2) sp dp n) → ∀ (H : Heap) (locs : List Loc), Now G s (XW G ad st1 ++ ex) H locs → W p l e (RM k) s m args below meth c H locs 0 0 Q (F0 m (pc + 3) ls rest)) : W p l e (RM k) s m args below meth c H locs 0 0 Q (F0 m pc ls (.int (nI n) :: .int (nI dp) :: .ref (ad 9) :: .int (nI sp) :: .ref (ad 11) :: rest)) := by
  have e1 := nI_clamp (show sp < 2 ^ 31 by omega)
  have e2 := nI_clamp (show dp < 2 ^ 31 by omega)
  have e3 := nI_clamp (show n < 2 ^ 31 by omega)
  refine va_copyi (ty := .int) F.1 F.2.1 (F.2.2.1.trans hsz.symm) F.2.2.2.1 (F.2.2.2.2.1 _ hl) (F.2.2.2.2.1 _ k_342) (F.2.2.2.2.1 _ k_341) (F.2.2.2.2.1 _ k_72) F.2.2.2.2.2.1 N.1 N.2.1 N.2.2 11 9 0 0 rfl rfl rfl rfl rfl (nI_pos (by omega)) (nI_pos (by omega)) (nI_pos (by omega)) (by rw [e1, e3]; exact h4) (by rw [e2, e3]; exact h5) (fun _ _ => rfl) (show 1 ≤ k from hk) (by show _ + (_ + 11) ≤ 64 * k; have h9 : nativeFrameWords "java/lang/System" "arraycopy" 5 ≤ 40 := (by decide +kernel); omega) hd (fun H locs hP hD hS => ?_)
  rw [e1, e2, e3] at hP hD
  exact kk _ rfl H locs ⟨hP, hD, hS⟩
end XROWS
end
section
theorem miX0_size : MIv yX0_size cX0_size 1 (some .int) 0 := ⟨k_494, k_492, k_493, k_74, by decide +kernel, by decide⟩
theorem miX0_cell : MIv yX0_cell cX0_cell 2 (some .int) 1 := ⟨k_498, k_496, k_497, k_74, by decide +kernel, by decide⟩
theorem miX0_holds : MIv yX0_holds cX0_holds 2 (some .boolean) 1 := ⟨k_509, k_507, k_508, k_74, by decide +kernel, by decide⟩
theorem miX1_letterAt : MIv yX1_letterAt cX1_letterAt 2 (some .int) 1 := ⟨k_585, k_583, k_584, k_69, by decide +kernel, by decide⟩
theorem miX1_write : MIv yX1_write cX1_write 5 none 2 := ⟨k_559, k_557, k_558, k_69, by decide +kernel, by decide⟩
theorem miX1_writeTerm : MIv yX1_writeTerm cX1_writeTerm 2 none 1 := ⟨k_569, k_568, k_13, k_69, by decide +kernel, by decide⟩
theorem miX1_writeNumber : MIv yX1_writeNumber cX1_writeNumber 2 none 1 := ⟨k_575, k_574, k_14, k_69, by decide +kernel, by decide⟩
theorem miX1_writePlace : MIv yX1_writePlace cX1_writePlace 4 none 2 := ⟨k_579, k_578, k_15, k_69, by decide +kernel, by decide⟩
theorem miX1_add : MIv yX1_add cX1_add 2 none 1 := ⟨k_564, k_563, k_12, k_69, by decide +kernel, by decide⟩
theorem miX2_keep : MIv yX2_keep cX2_keep 2 none 1 := ⟨k_339, k_337, k_338, k_66, by decide +kernel, by decide⟩
theorem miX2_restore : MIv yX2_restore cX2_restore 2 none 1 := ⟨k_536, k_534, k_535, k_66, by decide +kernel, by decide⟩
theorem miX3_read : MIv yX3_read cX3_read 4 (some .int) 0 := ⟨k_267, k_265, k_266, k_64, by decide +kernel, by decide⟩
theorem miX3_fault : MIv yX3_fault cX3_fault 1 (some .int) 0 := ⟨k_331, k_329, k_330, k_64, by decide +kernel, by decide⟩
theorem miX3_readTerm : MIv yX3_readTerm cX3_readTerm 1 (some .int) 0 := ⟨k_272, k_271, k_1, k_64, by decide +kernel, by decide⟩
theorem miX3_readNumber : MIv yX3_readNumber cX3_readNumber 3 (some .int) 0 := ⟨k_287, k_286, k_3, k_64, by decide +kernel, by decide⟩
theorem miX3_readReference : MIv yX3_readReference cX3_readReference 3 (some .int) 0 := ⟨k_298, k_297, k_5, k_64, by decide +kernel, by decide⟩
theorem miX3_readPlace : MIv yX3_readPlace cX3_readPlace 4 (some .int) 0 := ⟨k_302, k_301, k_6, k_64, by decide +kernel, by decide⟩
theorem miX3_takes : MIv yX3_takes cX3_takes 2 (some .boolean) 1 := ⟨k_294, k_293, k_4, k_64, by decide +kernel, by decide⟩
theorem miX3_next : MIv yX3_next cX3_next 1 (some .int) 0 := ⟨k_276, k_275, k_2, k_64, by decide +kernel, by decide⟩
theorem miX3_isFigure : MIs yX3_isFigure cX3_isFigure 1 (some .boolean) 1 := ⟨k_283, k_282, k_64, by decide +kernel, by decide⟩
theorem miX3_columnNamed : MIs yX3_columnNamed cX3_columnNamed 2 (some .int) 1 := ⟨k_305, k_304, k_64, by decide +kernel, by decide⟩
theorem miX4_termOf : MIv yX4_termOf cX4_termOf 3 (some .int) 2 := ⟨k_372, k_370, k_371, k_65, by decide +kernel, by decide⟩
theorem miX4_sizeOf : MIv yX4_sizeOf cX4_sizeOf 3 (some .int) 1 := ⟨k_368, k_366, k_367, k_65, by decide +kernel, by decide⟩
theorem miX4_isEmpty : MIv yX4_isEmpty cX4_isEmpty 2 (some .boolean) 1 := ⟨k_392, k_390, k_391, k_65, by decide +kernel, by decide⟩
theorem miX4_fill : MIv yX4_fill cX4_fill 3 none 2 := ⟨k_356, k_354, k_355, k_65, by decide +kernel, by decide⟩
theorem miX4_drop : MIv yX4_drop cX4_drop 3 none 1 := ⟨k_377, k_375, k_376, k_65, by decide +kernel, by decide⟩
theorem miX4_wouldLose : MIv yX4_wouldLose cX4_wouldLose 5 (some .boolean) 3 := ⟨k_388, k_386, k_387, k_65, by decide +kernel, by decide⟩
theorem miX4_openLines : MIv yX4_openLines cX4_openLines 5 none 3 := ⟨k_408, k_406, k_407, k_65, by decide +kernel, by decide⟩
theorem miX4_closeLines : MIv yX4_closeLines cX4_closeLines 5 none 3 := ⟨k_449, k_447, k_448, k_65, by decide +kernel, by decide⟩
theorem miX4_moveArea : MIv yX4_moveArea cX4_moveArea 6 (some .int) 2 := ⟨k_490, k_488, k_489, k_65, by decide +kernel, by decide⟩
theorem miX4_copyArea : MIv yX4_copyArea cX4_copyArea 7 (some .int) 2 := ⟨k_523, k_521, k_522, k_65, by decide +kernel, by decide⟩
theorem miX4_filledCells : MIv yX4_filledCells cX4_filledCells 3 (some .int) 0 := ⟨k_441, k_439, k_440, k_65, by decide +kernel, by decide⟩
theorem miX4_allTerms : MIv yX4_allTerms cX4_allTerms 3 (some .int) 0 := ⟨k_646, k_644, k_645, k_65, by decide +kernel, by decide⟩
theorem miX4_brokenTerms : MIv yX4_brokenTerms cX4_brokenTerms 3 (some .int) 0 := ⟨k_650, k_648, k_649, k_65, by decide +kernel, by decide⟩
theorem miX4_referencesTo : MIv yX4_referencesTo cX4_referencesTo 6 (some .int) 2 := ⟨k_636, k_634, k_635, k_65, by decide +kernel, by decide⟩
theorem miX4_lookAhead : MIv yX4_lookAhead cX4_lookAhead 1 none 0 := ⟨k_412, k_411, k_8, k_65, by decide +kernel, by decide⟩
theorem miX4_takeTo : MIv yX4_takeTo cX4_takeTo 4 none 2 := ⟨k_421, k_420, k_10, k_65, by decide +kernel, by decide⟩
theorem miX4_takeAlong : MIv yX4_takeAlong cX4_takeAlong 5 none 3 := ⟨k_417, k_416, k_9, k_65, by decide +kernel, by decide⟩
theorem miX4_spreadTerms : MIv yX4_spreadTerms cX4_spreadTerms 8 (some .int) 3 := ⟨k_527, k_526, k_11, k_65, by decide +kernel, by decide⟩
theorem miX4_whenMoved : MIs yX4_whenMoved cX4_whenMoved 4 (some .int) 3 := ⟨k_504, k_503, k_65, by decide +kernel, by decide⟩
theorem miX4_lineOf : MIs yX4_lineOf cX4_lineOf 2 (some .int) 2 := ⟨k_395, k_394, k_65, by decide +kernel, by decide⟩
theorem miX4_lineAfterComing : MIs yX4_lineAfterComing cX4_lineAfterComing 3 (some .int) 3 := ⟨k_404, k_403, k_65, by decide +kernel, by decide⟩
theorem miX4_lineAfterGoing : MIs yX4_lineAfterGoing cX4_lineAfterGoing 3 (some .int) 3 := ⟨k_452, k_451, k_65, by decide +kernel, by decide⟩
theorem miX5_ofNumber : MIs yX5_ofNumber cX5_ofNumber 1 (some .int) 1 := ⟨k_290, k_289, k_71, by decide +kernel, by decide⟩
theorem miX5_ofPlace : MIs yX5_ofPlace cX5_ofPlace 4 (some .int) 3 := ⟨k_309, k_308, k_71, by decide +kernel, by decide⟩
theorem miX5_ofBlock : MIs yX5_ofBlock cX5_ofBlock 5 (some .int) 2 := ⟨k_315, k_314, k_71, by decide +kernel, by decide⟩
theorem miX5_kind : MIs yX5_kind cX5_kind 1 (some .int) 1 := ⟨k_430, k_429, k_71, by decide +kernel, by decide⟩
theorem miX5_fixed : MIs yX5_fixed cX5_fixed 1 (some .int) 1 := ⟨k_318, k_317, k_71, by decide +kernel, by decide⟩
theorem miX5_number : MIs yX5_number cX5_number 1 (some .int) 1 := ⟨k_550, k_549, k_71, by decide +kernel, by decide⟩
theorem miX5_coordinate : MIs yX5_coordinate cX5_coordinate 2 (some .int) 2 := ⟨k_321, k_320, k_71, by decide +kernel, by decide⟩
theorem miX5_refers : MIs yX5_refers cX5_refers 1 (some .boolean) 1 := ⟨k_427, k_426, k_71, by decide +kernel, by decide⟩
theorem miX5_least : MIs yX5_least cX5_least 2 (some .int) 2 := ⟨k_436, k_435, k_71, by decide +kernel, by decide⟩
theorem miX5_greatest : MIs yX5_greatest cX5_greatest 2 (some .int) 2 := ⟨k_433, k_432, k_71, by decide +kernel, by decide⟩
theorem miX5_whenLinesCome : MIs yX5_whenLinesCome cX5_whenLinesCome 7 (some .int) 4 := ⟨k_424, k_423, k_71, by decide +kernel, by decide⟩
theorem miX5_whenLinesGo : MIs yX5_whenLinesGo cX5_whenLinesGo 9 (some .int) 4 := ⟨k_455, k_454, k_71, by decide +kernel, by decide⟩
theorem miX5_further : MIs yX5_further cX5_further 10 (some .int) 4 := ⟨k_514, k_513, k_71, by decide +kernel, by decide⟩
theorem miX5_ordered : MIs yX5_ordered cX5_ordered 3 (some .int) 1 := ⟨k_324, k_323, k_71, by decide +kernel, by decide⟩
theorem miX5_crossed : MIs yX5_crossed cX5_crossed 7 (some .int) 2 := ⟨k_327, k_326, k_71, by decide +kernel, by decide⟩
theorem miX5_with : MIs yX5_with cX5_with 4 (some .int) 3 := ⟨k_312, k_311, k_71, by decide +kernel, by decide⟩
theorem miX6_isFull : MIv yX6_isFull cX6_isFull 1 (some .boolean) 0 := ⟨k_244, k_242, k_243, k_63, by decide +kernel, by decide⟩
theorem miX6_add : MIv yX6_add cX6_add 2 (some .int) 1 := ⟨k_248, k_246, k_247, k_63, by decide +kernel, by decide⟩
theorem miX6_drop : MIv yX6_drop cX6_drop 2 (some .int) 0 := ⟨k_256, k_254, k_255, k_63, by decide +kernel, by decide⟩
theorem miX6_byteAt : MIv yX6_byteAt cX6_byteAt 2 (some .int) 1 := ⟨k_280, k_278, k_279, k_63, by decide +kernel, by decide⟩
theorem miX7_forget : MIv yX7_forget cX7_forget 1 none 0 := ⟨k_349, k_347, k_348, k_67, by decide +kernel, by decide⟩
theorem miX7_faultyCells : MIv yX7_faultyCells cX7_faultyCells 3 (some .int) 0 := ⟨k_654, k_652, k_653, k_67, by decide +kernel, by decide⟩
theorem miX7_isFaulty : MIv yX7_isFaulty cX7_isFaulty 2 (some .boolean) 1 := ⟨k_593, k_591, k_592, k_67, by decide +kernel, by decide⟩
theorem miX7_ask : MIv yX7_ask cX7_ask 5 (some .int) 2 := ⟨k_597, k_596, k_16, k_67, by decide +kernel, by decide⟩
theorem miX7_addTerm : MIv yX7_addTerm cX7_addTerm 11 (some .int) 4 := ⟨k_606, k_605, k_18, k_67, by decide +kernel, by decide⟩
theorem miX7_add : MIv yX7_add cX7_add 5 (some .int) 4 := ⟨k_612, k_611, k_19, k_67, by decide +kernel, by decide⟩
theorem miX7_meet : MIv yX7_meet cX7_meet 4 none 3 := ⟨k_601, k_600, k_17, k_67, by decide +kernel, by decide⟩
theorem miX8_type : MIv yX8_type cX8_type 2 (some .int) 1 := ⟨k_233, k_231, k_232, k_62, by decide +kernel, by decide⟩
theorem miX8_clear : MIv yX8_clear cX8_clear 1 (some .int) 0 := ⟨k_252, k_250, k_251, k_62, by decide +kernel, by decide⟩
theorem miX8_put : MIv yX8_put cX8_put 4 (some .int) 2 := ⟨k_260, k_258, k_259, k_62, by decide +kernel, by decide⟩
theorem miX8_empties : MIv yX8_empties cX8_empties 4 (some .int) 2 := ⟨k_364, k_362, k_363, k_62, by decide +kernel, by decide⟩
theorem miX8_comes : MIv yX8_comes cX8_comes 5 (some .int) 3 := ⟨k_381, k_379, k_380, k_62, by decide +kernel, by decide⟩
theorem miX8_goes : MIv yX8_goes cX8_goes 4 (some .int) 3 := ⟨k_445, k_443, k_444, k_62, by decide +kernel, by decide⟩
theorem miX8_moves : MIv yX8_moves cX8_moves 7 (some .int) 6 := ⟨k_462, k_460, k_461, k_62, by decide +kernel, by decide⟩
theorem miX8_copies : MIv yX8_copies cX8_copies 7 (some .int) 6 := ⟨k_519, k_517, k_518, k_62, by decide +kernel, by decide⟩
theorem miX8_back : MIv yX8_back cX8_back 1 (some .int) 0 := ⟨k_532, k_530, k_531, k_62, by decide +kernel, by decide⟩
theorem miX8_terms : MIv yX8_terms cX8_terms 3 (some .int) 2 := ⟨k_540, k_538, k_539, k_62, by decide +kernel, by decide⟩
theorem miX8_term : MIv yX8_term cX8_term 6 (some .int) 4 := ⟨k_544, k_542, k_543, k_62, by decide +kernel, by decide⟩
theorem miX8_shown : MIv yX8_shown cX8_shown 4 (some .int) 3 := ⟨k_555, k_553, k_554, k_62, by decide +kernel, by decide⟩
theorem miX8_value : MIv yX8_value cX8_value 4 (some .int) 2 := ⟨k_589, k_587, k_588, k_62, by decide +kernel, by decide⟩
theorem miX8_why : MIv yX8_why cX8_why 5 (some .int) 2 := ⟨k_622, k_620, k_621, k_62, by decide +kernel, by decide⟩
theorem miX8_deep : MIv yX8_deep cX8_deep 4 (some .int) 2 := ⟨k_628, k_626, k_627, k_62, by decide +kernel, by decide⟩
theorem miX8_users : MIv yX8_users cX8_users 3 (some .int) 2 := ⟨k_632, k_630, k_631, k_62, by decide +kernel, by decide⟩
theorem miX8_count : MIv yX8_count cX8_count 2 (some .int) 1 := ⟨k_642, k_640, k_641, k_62, by decide +kernel, by decide⟩
theorem miX8_told : MIv yX8_told cX8_told 2 (some .int) 1 := ⟨k_659, k_657, k_658, k_62, by decide +kernel, by decide⟩
theorem miX8_digest : MIv yX8_digest cX8_digest 4 (some .long) 0 := ⟨k_663, k_661, k_662, k_62, by decide +kernel, by decide⟩
theorem miX8_digestWith : MIv yX8_digestWith cX8_digestWith 10 (some .long) 3 := ⟨k_671, k_670, k_20, k_62, by decide +kernel, by decide⟩
theorem miX8_refused : MIv yX8_refused cX8_refused 2 (some .int) 1 := ⟨k_240, k_239, k_0, k_62, by decide +kernel, by decide⟩
theorem miX8_leaveState : MIv yX8_leaveState cX8_leaveState 1 none 0 := ⟨k_335, k_334, k_7, k_62, by decide +kernel, by decide⟩
theorem miX8_isWithin : MIs yX8_isWithin cX8_isWithin 3 (some .boolean) 3 := ⟨k_236, k_235, k_62, by decide +kernel, by decide⟩
theorem miX8_isPlace : MIs yX8_isPlace cX8_isPlace 2 (some .boolean) 2 := ⟨k_263, k_262, k_62, by decide +kernel, by decide⟩
theorem miX8_isArea : MIs yX8_isArea cX8_isArea 4 (some .boolean) 4 := ⟨k_465, k_464, k_62, by decide +kernel, by decide⟩
theorem miX8_isCell : MIs yX8_isCell cX8_isCell 1 (some .boolean) 1 := ⟨k_359, k_358, k_62, by decide +kernel, by decide⟩
theorem miX8_cellAt : MIs yX8_cellAt cX8_cellAt 2 (some .int) 2 := ⟨k_352, k_351, k_62, by decide +kernel, by decide⟩
theorem miX8_columnOf : MIs yX8_columnOf cX8_columnOf 1 (some .int) 1 := ⟨k_398, k_397, k_62, by decide +kernel, by decide⟩
theorem miX8_rowOf : MIs yX8_rowOf cX8_rowOf 1 (some .int) 1 := ⟨k_401, k_400, k_62, by decide +kernel, by decide⟩
theorem miX8_axisOf : MIs yX8_axisOf cX8_axisOf 1 (some .int) 1 := ⟨k_384, k_383, k_62, by decide +kernel, by decide⟩
theorem miX9_in : MIs yX9_in cX9_in 3 (some .boolean) 3 := ⟨k_762, k_761, k_70, by decide +kernel, by decide⟩
theorem miX9_bad : MIv yX9_bad cX9_bad 1 (some .int) 0 := ⟨k_766, k_765, k_21, k_70, by decide +kernel, by decide⟩
theorem miX9_laysAside : MIv yX9_laysAside cX9_laysAside 2 none 0 := ⟨k_816, k_815, k_30, k_70, by decide +kernel, by decide⟩
theorem miX9_remembers : MIv yX9_remembers cX9_remembers 2 none 0 := ⟨k_820, k_819, k_31, k_70, by decide +kernel, by decide⟩
theorem miX9_back : MIv yX9_back cX9_back 2 (some .int) 0 := ⟨k_755, k_753, k_754, k_70, by decide +kernel, by decide⟩
theorem miX9_isCell : MIs yX9_isCell cX9_isCell 2 (some .boolean) 2 := ⟨k_777, k_776, k_70, by decide +kernel, by decide⟩
theorem miX9_placeOf : MIs yX9_placeOf cX9_placeOf 2 (some .int) 2 := ⟨k_823, k_822, k_70, by decide +kernel, by decide⟩
theorem miX9_termPlace : MIs yX9_termPlace cX9_termPlace 2 (some .int) 2 := ⟨k_860, k_859, k_70, by decide +kernel, by decide⟩
theorem miX9_breaks : MIv yX9_breaks cX9_breaks 3 none 1 := ⟨k_868, k_867, k_38, k_70, by decide +kernel, by decide⟩
theorem miX9_empty : MIv yX9_empty cX9_empty 3 none 1 := ⟨k_831, k_830, k_32, k_70, by decide +kernel, by decide⟩
theorem miX9_takes : MIv yX9_takes cX9_takes 4 none 2 := ⟨k_857, k_856, k_36, k_70, by decide +kernel, by decide⟩
theorem miX9_filled : MIv yX9_filled cX9_filled 3 (some .int) 0 := ⟨k_876, k_875, k_40, k_70, by decide +kernel, by decide⟩
theorem miX9_sorts : MIs yX9_sorts cX9_sorts 8 none 5 := ⟨k_812, k_811, k_70, by decide +kernel, by decide⟩
theorem miX9_blanks : MIv yX9_blanks cX9_blanks 1 none 0 := ⟨k_785, k_784, k_23, k_70, by decide +kernel, by decide⟩
theorem miX9_isAt : MIv yX9_isAt cX9_isAt 3 (some .boolean) 2 := ⟨k_793, k_792, k_25, k_70, by decide +kernel, by decide⟩
theorem miX9_fails : MIv yX9_fails cX9_fails 1 (some .boolean) 0 := ⟨k_801, k_800, k_27, k_70, by decide +kernel, by decide⟩
theorem miX9_takesNumber : MIv yX9_takesNumber cX9_takesNumber 4 (some .boolean) 1 := ⟨k_797, k_796, k_26, k_70, by decide +kernel, by decide⟩
theorem miX9_dollar : MIv yX9_dollar cX9_dollar 2 (some .int) 1 := ⟨k_809, k_808, k_29, k_70, by decide +kernel, by decide⟩
theorem miX9_takesPlace : MIv yX9_takesPlace cX9_takesPlace 5 (some .boolean) 3 := ⟨k_805, k_804, k_28, k_70, by decide +kernel, by decide⟩
theorem miX9_takesTerm : MIv yX9_takesTerm cX9_takesTerm 2 (some .boolean) 1 := ⟨k_789, k_788, k_24, k_70, by decide +kernel, by decide⟩
theorem miX9_isRead : MIv yX9_isRead cX9_isRead 2 (some .boolean) 0 := ⟨k_781, k_780, k_22, k_70, by decide +kernel, by decide⟩
theorem miX9_type : MIv yX9_type cX9_type 2 (some .int) 1 := ⟨k_759, k_757, k_758, k_70, by decide +kernel, by decide⟩
theorem miX9_clear : MIv yX9_clear cX9_clear 2 (some .int) 0 := ⟨k_770, k_768, k_769, k_70, by decide +kernel, by decide⟩
theorem miX9_put : MIv yX9_put cX9_put 4 (some .int) 2 := ⟨k_774, k_772, k_773, k_70, by decide +kernel, by decide⟩
theorem miX9_empties : MIv yX9_empties cX9_empties 4 (some .int) 2 := ⟨k_827, k_825, k_826, k_70, by decide +kernel, by decide⟩
theorem miX9_cellBy : MIs yX9_cellBy cX9_cellBy 3 (some .int) 3 := ⟨k_842, k_841, k_70, by decide +kernel, by decide⟩
theorem miX9_lineBehind : MIs yX9_lineBehind cX9_lineBehind 3 (some .int) 3 := ⟨k_853, k_852, k_70, by decide +kernel, by decide⟩
theorem miX9_shiftsCells : MIv yX9_shiftsCells cX9_shiftsCells 7 none 3 := ⟨k_850, k_849, k_35, k_70, by decide +kernel, by decide⟩
theorem miX9_shiftsPlace : MIv yX9_shiftsPlace cX9_shiftsPlace 6 none 4 := ⟨k_864, k_863, k_37, k_70, by decide +kernel, by decide⟩
theorem miX9_shiftsBlock : MIv yX9_shiftsBlock cX9_shiftsBlock 7 none 4 := ⟨k_872, k_871, k_39, k_70, by decide +kernel, by decide⟩
theorem miX9_shifts : MIv yX9_shifts cX9_shifts 8 none 3 := ⟨k_846, k_845, k_34, k_70, by decide +kernel, by decide⟩
theorem miX9_wouldLose : MIv yX9_wouldLose cX9_wouldLose 7 (some .boolean) 3 := ⟨k_839, k_838, k_33, k_70, by decide +kernel, by decide⟩
theorem miX9_comes : MIv yX9_comes cX9_comes 4 (some .int) 3 := ⟨k_835, k_833, k_834, k_70, by decide +kernel, by decide⟩
theorem miX9_goes : MIv yX9_goes cX9_goes 4 (some .int) 3 := ⟨k_880, k_878, k_879, k_70, by decide +kernel, by decide⟩
theorem miX9_isWithin : MIs yX9_isWithin cX9_isWithin 4 (some .boolean) 4 := ⟨k_887, k_886, k_70, by decide +kernel, by decide⟩
theorem miX9_liesIn : MIv yX9_liesIn cX9_liesIn 8 (some .boolean) 5 := ⟨k_891, k_890, k_41, k_70, by decide +kernel, by decide⟩
theorem miX9_pushes : MIv yX9_pushes cX9_pushes 4 none 3 := ⟨k_895, k_894, k_42, k_70, by decide +kernel, by decide⟩
theorem miX9_moves : MIv yX9_moves cX9_moves 12 (some .int) 6 := ⟨k_884, k_882, k_883, k_70, by decide +kernel, by decide⟩
theorem miX9_goesOn : MIv yX9_goesOn cX9_goesOn 6 none 3 := ⟨k_903, k_902, k_43, k_70, by decide +kernel, by decide⟩
theorem miX9_copies : MIv yX9_copies cX9_copies 12 (some .int) 6 := ⟨k_899, k_897, k_898, k_70, by decide +kernel, by decide⟩
theorem miX9_terms : MIv yX9_terms cX9_terms 3 (some .int) 2 := ⟨k_907, k_905, k_906, k_70, by decide +kernel, by decide⟩
theorem miX9_term : MIv yX9_term cX9_term 6 (some .int) 4 := ⟨k_911, k_909, k_910, k_70, by decide +kernel, by decide⟩
theorem miX9_writes : MIv yX9_writes cX9_writes 2 none 1 := ⟨k_919, k_918, k_44, k_70, by decide +kernel, by decide⟩
theorem miX9_writesPlace : MIv yX9_writesPlace cX9_writesPlace 4 none 3 := ⟨k_931, k_930, k_47, k_70, by decide +kernel, by decide⟩
theorem miX9_writesNumber : MIv yX9_writesNumber cX9_writesNumber 2 none 1 := ⟨k_927, k_926, k_46, k_70, by decide +kernel, by decide⟩
theorem miX9_writesTerm : MIv yX9_writesTerm cX9_writesTerm 2 none 1 := ⟨k_923, k_922, k_45, k_70, by decide +kernel, by decide⟩
theorem miX9_shown : MIv yX9_shown cX9_shown 6 (some .int) 3 := ⟨k_915, k_913, k_914, k_70, by decide +kernel, by decide⟩
theorem miX9_meets : MIv yX9_meets cX9_meets 3 none 2 := ⟨k_951, k_950, k_51, k_70, by decide +kernel, by decide⟩
theorem miX9_adds : MIv yX9_adds cX9_adds 2 none 1 := ⟨k_955, k_954, k_52, k_70, by decide +kernel, by decide⟩
theorem miX9_asks : MIv yX9_asks cX9_asks 2 none 1 := ⟨k_947, k_946, k_50, k_70, by decide +kernel, by decide⟩
theorem miX9_asksOfBlock : MIv yX9_asksOfBlock cX9_asksOfBlock 6 none 2 := ⟨k_964, k_963, k_54, k_70, by decide +kernel, by decide⟩
theorem miX9_goesOnAsking : MIv yX9_goesOnAsking cX9_goesOnAsking 4 none 0 := ⟨k_960, k_959, k_53, k_70, by decide +kernel, by decide⟩
theorem miX9_finds : MIv yX9_finds cX9_finds 3 none 1 := ⟨k_943, k_942, k_49, k_70, by decide +kernel, by decide⟩
theorem miX9_valueOf : MIv yX9_valueOf cX9_valueOf 2 (some .int) 1 := ⟨k_939, k_938, k_48, k_70, by decide +kernel, by decide⟩
theorem miX9_whyOf : MIv yX9_whyOf cX9_whyOf 2 (some .int) 1 := ⟨k_972, k_971, k_55, k_70, by decide +kernel, by decide⟩
theorem miX9_deepOf : MIv yX9_deepOf cX9_deepOf 2 (some .int) 1 := ⟨k_980, k_979, k_56, k_70, by decide +kernel, by decide⟩
theorem miX9_value : MIv yX9_value cX9_value 3 (some .int) 2 := ⟨k_935, k_933, k_934, k_70, by decide +kernel, by decide⟩
theorem miX9_why : MIv yX9_why cX9_why 3 (some .int) 2 := ⟨k_968, k_966, k_967, k_70, by decide +kernel, by decide⟩
theorem miX9_deep : MIv yX9_deep cX9_deep 3 (some .int) 2 := ⟨k_976, k_974, k_975, k_70, by decide +kernel, by decide⟩
theorem miX9_refersTo : MIv yX9_refersTo cX9_refersTo 4 (some .boolean) 3 := ⟨k_988, k_987, k_57, k_70, by decide +kernel, by decide⟩
theorem miX9_users : MIv yX9_users cX9_users 6 (some .int) 2 := ⟨k_984, k_982, k_983, k_70, by decide +kernel, by decide⟩
theorem miX9_countOf : MIv yX9_countOf cX9_countOf 5 (some .int) 1 := ⟨k_996, k_995, k_58, k_70, by decide +kernel, by decide⟩
theorem miX9_count : MIv yX9_count cX9_count 2 (some .int) 1 := ⟨k_992, k_990, k_991, k_70, by decide +kernel, by decide⟩
theorem miX9_toldOf : MIv yX9_toldOf cX9_toldOf 2 (some .int) 1 := ⟨k_1004, k_1003, k_59, k_70, by decide +kernel, by decide⟩
theorem miX9_told : MIv yX9_told cX9_told 2 (some .int) 1 := ⟨k_1000, k_998, k_999, k_70, by decide +kernel, by decide⟩
theorem miX9_mix : MIv yX9_mix cX9_mix 3 none 1 := ⟨k_1013, k_1012, k_60, k_70, by decide +kernel, by decide⟩
theorem miX9_digest : MIv yX9_digest cX9_digest 4 (some .long) 0 := ⟨k_1008, k_1006, k_1007, k_70, by decide +kernel, by decide⟩
theorem miJ7_fill_53178 : MIs yJ7_fill_53178 cJ7_fill_53178 4 none 2 := ⟨k_155, k_154, k_68, by decide +kernel, by decide⟩
end
section
/-! contracts over the class's world (XX..), over the reference's (MM..); rows of numbers -/
def XXi (l : Launch) (G : GM) (y : MethodName) (b : ByteArray) (n : Nat) (r : Option FieldType) (k : Nat) (av : List Value) (ad : Nat → Nat) (ex : va_W) (st : ST) (ri : Int32) (st1 : ST) : Prop := XCi l G y b n r k av (XW G ad st ++ ex) ri (XW G ad st1 ++ ex)
def XXl (l : Launch) (G : GM) (y : MethodName) (b : ByteArray) (n : Nat) (r : Option FieldType) (k : Nat) (av : List Value) (ad : Nat → Nat) (ex : va_W) (st : ST) (ri : Int64) (st1 : ST) : Prop := XCl l G y b n r k av (XW G ad st ++ ex) ri (XW G ad st1 ++ ex)
def XXv (l : Launch) (G : GM) (y : MethodName) (b : ByteArray) (n : Nat) (r : Option FieldType) (k : Nat) (av : List Value) (ad : Nat → Nat) (ex : va_W) (st : ST) (st1 : ST) : Prop := XCv l G y b n r k av (XW G ad st ++ ex) (XW G ad st1 ++ ex)
def MMi (l : Launch) (G : GM) (y : MethodName) (b : ByteArray) (n : Nat) (r : Option FieldType) (k : Nat) (av : List Value) (ad : Nat → Nat) (ex : va_W) (st : ST) (ri : Int32) (st1 : ST) : Prop := XCi l G y b n r k av (MW G ad st ++ ex) ri (MW G ad st1 ++ ex)
def MMl (l : Launch) (G : GM) (y : MethodName) (b : ByteArray) (n : Nat) (r : Option FieldType) (k : Nat) (av : List Value) (ad : Nat → Nat) (ex : va_W) (st : ST) (ri : Int64) (st1 : ST) : Prop := XCl l G y b n r k av (MW G ad st ++ ex) ri (MW G ad st1 ++ ex)
def MMv (l : Launch) (G : GM) (y : MethodName) (b : ByteArray) (n : Nat) (r : Option FieldType) (k : Nat) (av : List Value) (ad : Nat → Nat) (ex : va_W) (st : ST) (st1 : ST) : Prop := XCv l G y b n r k av (MW G ad st ++ ex) (MW G ad st1 ++ ex)
section XCALL
variable {p : Program} {l : Launch} {e : Env} {k : Nat} {s : State} {m : MethodId} {args : Array Value} {below : List Frame} {meth : Method} {c : Code} {H : Heap} {locs : List Loc} {Q : State → Prop} {cc : ByteArray} {nL : Nat} {own : String} {G : GM}
  {y : MethodName} {b : ByteArray} {n : Nat} {r : Option FieldType} {k2 : Nat} {w0 w1 : va_W} {pc : Nat} {ls : Array Slot} {st0 rest : List Value} {idx : Nat} {As : List Value} {a : Nat} {ad : Nat → Nat} {ex : va_W} {st st1 : ST} {R : Room} {cells slots : Nat}
theorem xV_i {ri : Int32} (F : FX p s m args c cc nL own G) (N : Now G s (XW G ad st ++ ex) H locs) (hC : XXi l G y b n r k2 (.ref a :: As) ad ex st ri st1) (hM : MIv y b n r As.length) (hl : Cond.methodLink own idx y ∈ goodT) (hk : k2 < k) (hsz : ls.size = nL) (hst : st0 = As.reverse ++ .ref a :: rest) (hrest : (rest.map fun v => v.category).sum ≤ 8)
    {q0 ci : Nat} {fs : List Value} {T : u_T} {NN : Nat} (he : (XW G ad st ++ ex)[q0]? = some (a, .inr (ci, fs))) (hc : vwCl[ci]? = some (y.cls, T, NN)) (hd : decode cc pc = .ok (.invokevirtual idx, 3))
    (kk : ∀ st2 : ST, st2 = st1 → ∀ (H : Heap) (locs : List Loc), Now G s (XW G ad st2 ++ ex) H locs → W p l e (RM k) s m args below meth c H locs 0 0 Q (F0 m (pc + 3) ls (.int ri :: rest))) : W p l e (RM k) s m args below meth c H locs 0 0 Q (F0 m pc ls st0) := cV_i F N hC hM hl hk hsz hst hrest he hc hd (kk _ rfl)
theorem xV_l {ri : Int64} (F : FX p s m args c cc nL own G) (N : Now G s (XW G ad st ++ ex) H locs) (hC : XXl l G y b n r k2 (.ref a :: As) ad ex st ri st1) (hM : MIv y b n r As.length) (hl : Cond.methodLink own idx y ∈ goodT) (hk : k2 < k) (hsz : ls.size = nL) (hst : st0 = As.reverse ++ .ref a :: rest) (hrest : (rest.map fun v => v.category).sum ≤ 8)
    {q0 ci : Nat} {fs : List Value} {T : u_T} {NN : Nat} (he : (XW G ad st ++ ex)[q0]? = some (a, .inr (ci, fs))) (hc : vwCl[ci]? = some (y.cls, T, NN)) (hd : decode cc pc = .ok (.invokevirtual idx, 3))
    (kk : ∀ st2 : ST, st2 = st1 → ∀ (H : Heap) (locs : List Loc), Now G s (XW G ad st2 ++ ex) H locs → W p l e (RM k) s m args below meth c H locs 0 0 Q (F0 m (pc + 3) ls (.long ri :: rest))) : W p l e (RM k) s m args below meth c H locs 0 0 Q (F0 m pc ls st0) := cV_l F N hC hM hl hk hsz hst hrest he hc hd (kk _ rfl)
theorem xV_v (F : FX p s m args c cc nL own G) (N : Now G s (XW G ad st ++ ex) H locs) (hC : XXv l G y b n r k2 (.ref a :: As) ad ex st st1) (hM : MIv y b n r As.length) (hl : Cond.methodLink own idx y ∈ goodT) (hk : k2 < k) (hsz : ls.size = nL) (hst : st0 = As.reverse ++ .ref a :: rest) (hrest : (rest.map fun v => v.category).sum ≤ 8)
    {q0 ci : Nat} {fs : List Value} {T : u_T} {NN : Nat} (he : (XW G ad st ++ ex)[q0]? = some (a, .inr (ci, fs))) (hc : vwCl[ci]? = some (y.cls, T, NN)) (hd : decode cc pc = .ok (.invokevirtual idx, 3))
    (kk : ∀ st2 : ST, st2 = st1 → ∀ (H : Heap) (locs : List Loc), Now G s (XW G ad st2 ++ ex) H locs → W p l e (RM k) s m args below meth c H locs 0 0 Q (F0 m (pc + 3) ls rest)) : W p l e (RM k) s m args below meth c H locs 0 0 Q (F0 m pc ls st0) := cV_v F N hC hM hl hk hsz hst hrest he hc hd (kk _ rfl)
theorem xS_v (F : FX p s m args c cc nL own G) (N : Now G s (XW G ad st ++ ex) H locs) (hC : XXv l G y b n r k2 As ad ex st st1) (hM : MIs y b n r As.length) (hl : Cond.methodLink own idx y ∈ goodT) (hk : k2 < k) (hsz : ls.size = nL) (hst : st0 = As.reverse ++ rest) (hrest : (rest.map fun v => v.category).sum ≤ 8) (hd : decode cc pc = .ok (.invokestatic idx, 3))
    (kk : ∀ st2 : ST, st2 = st1 → ∀ (H : Heap) (locs : List Loc), Now G s (XW G ad st2 ++ ex) H locs → W p l e (RM k) s m args below meth c H locs 0 0 Q (F0 m (pc + 3) ls rest)) : W p l e (RM k) s m args below meth c H locs 0 0 Q (F0 m pc ls st0) := cS_v F N hC hM hl hk hsz hst hrest hd (kk _ rfl)
theorem mV_i {ri : Int32} (F : FX p s m args c cc nL own G) (N : Now G s (MW G ad st ++ ex) H locs) (hC : MMi l G y b n r k2 (.ref a :: As) ad ex st ri st1) (hM : MIv y b n r As.length) (hl : Cond.methodLink own idx y ∈ goodT) (hk : k2 < k) (hsz : ls.size = nL) (hst : st0 = As.reverse ++ .ref a :: rest) (hrest : (rest.map fun v => v.category).sum ≤ 8)
    {q0 ci : Nat} {fs : List Value} {T : u_T} {NN : Nat} (he : (MW G ad st ++ ex)[q0]? = some (a, .inr (ci, fs))) (hc : vwCl[ci]? = some (y.cls, T, NN)) (hd : decode cc pc = .ok (.invokevirtual idx, 3))
    (kk : ∀ st2 : ST, st2 = st1 → ∀ (H : Heap) (locs : List Loc), Now G s (MW G ad st2 ++ ex) H locs → W p l e (RM k) s m args below meth c H locs 0 0 Q (F0 m (pc + 3) ls (.int ri :: rest))) : W p l e (RM k) s m args below meth c H locs 0 0 Q (F0 m pc ls st0) := cV_i F N hC hM hl hk hsz hst hrest he hc hd (kk _ rfl)
theorem mV_v (F : FX p s m args c cc nL own G) (N : Now G s (MW G ad st ++ ex) H locs) (hC : MMv l G y b n r k2 (.ref a :: As) ad ex st st1) (hM : MIv y b n r As.length) (hl : Cond.methodLink own idx y ∈ goodT) (hk : k2 < k) (hsz : ls.size = nL) (hst : st0 = As.reverse ++ .ref a :: rest) (hrest : (rest.map fun v => v.category).sum ≤ 8)
    {q0 ci : Nat} {fs : List Value} {T : u_T} {NN : Nat} (he : (MW G ad st ++ ex)[q0]? = some (a, .inr (ci, fs))) (hc : vwCl[ci]? = some (y.cls, T, NN)) (hd : decode cc pc = .ok (.invokevirtual idx, 3))
    (kk : ∀ st2 : ST, st2 = st1 → ∀ (H : Heap) (locs : List Loc), Now G s (MW G ad st2 ++ ex) H locs → W p l e (RM k) s m args below meth c H locs 0 0 Q (F0 m (pc + 3) ls rest)) : W p l e (RM k) s m args below meth c H locs 0 0 Q (F0 m pc ls st0) := cV_v F N hC hM hl hk hsz hst hrest he hc hd (kk _ rfl)
theorem mS_v (F : FX p s m args c cc nL own G) (N : Now G s (MW G ad st ++ ex) H locs) (hC : MMv l G y b n r k2 As ad ex st st1) (hM : MIs y b n r As.length) (hl : Cond.methodLink own idx y ∈ goodT) (hk : k2 < k) (hsz : ls.size = nL) (hst : st0 = As.reverse ++ rest) (hrest : (rest.map fun v => v.category).sum ≤ 8) (hd : decode cc pc = .ok (.invokestatic idx, 3))
    (kk : ∀ st2 : ST, st2 = st1 → ∀ (H : Heap) (locs : List Loc), Now G s (MW G ad st2 ++ ex) H locs → W p l e (RM k) s m args below meth c H locs 0 0 Q (F0 m (pc + 3) ls rest)) : W p l e (RM k) s m args below meth c H locs 0 0 Q (F0 m pc ls st0) := cS_v F N hC hM hl hk hsz hst hrest hd (kk _ rfl)
/-! numbers as naturals -/
theorem nI_mul (a b : Nat) : nI a * nI b = nI (a * b) := (Int32.ofNat_mul a b).symm
theorem nI_sub {a b : Nat} (h : b ≤ a) : nI a - nI b = nI (a - b) := by
  have h1 : nI a = nI (a - b) + nI b := by rw [nI_add]; congr 1; omega
  rw [h1]
  exact Int32.add_sub_cancel _ _
theorem nI_div {a b : Nat} (ha : a < 2 ^ 31) (hb : b < 2 ^ 31) : nI a / nI b = nI (a / b) := by
  apply Int32.toInt_inj.mp
  have hc : a / b < 2 ^ 31 := Nat.lt_of_le_of_lt (Nat.div_le_self a b) ha
  have h0 : (0 : Int) ≤ ((a / b : Nat) : Int) := Int.natCast_nonneg _
  rw [Int32.toInt_div, nI_toInt ha, nI_toInt hb, nI_toInt hc, ← Int.ofNat_tdiv, Int.bmod_eq_of_le]
  · omega
  · omega
theorem nI_rem {a b : Nat} (ha : a < 2 ^ 31) (hb : b < 2 ^ 31) : nI a - nI a / nI b * nI b = nI (a % b) := by
  rw [nI_div ha hb, nI_mul, nI_sub (Nat.div_mul_le_self a b), Nat.mod_eq_sub_div_mul]
theorem iaddN {a b : Nat} (hx : p.tables.exec = Jvm.exec) (hb : c.code = cc) (hd : decode cc pc = .ok (.iadd, 1)) (kk : W p l e R s m args below meth c H locs cells slots Q (F0 m (pc + 1) ls (.int (nI (a + b)) :: rest))) : W p l e R s m args below meth c H locs cells slots Q (F0 m pc ls (.int (nI b) :: .int (nI a) :: rest)) := lv_iadd hx hb hd (by rw [nI_add]; exact kk)
theorem imulN {a b : Nat} (hx : p.tables.exec = Jvm.exec) (hb : c.code = cc) (hd : decode cc pc = .ok (.imul, 1)) (kk : W p l e R s m args below meth c H locs cells slots Q (F0 m (pc + 1) ls (.int (nI (a * b)) :: rest))) : W p l e R s m args below meth c H locs cells slots Q (F0 m pc ls (.int (nI b) :: .int (nI a) :: rest)) := lv_imul hx hb hd (by rw [nI_mul]; exact kk)
theorem isubN {a b : Nat} (hx : p.tables.exec = Jvm.exec) (hb : c.code = cc) (hd : decode cc pc = .ok (.isub, 1)) (h : b ≤ a) (kk : W p l e R s m args below meth c H locs cells slots Q (F0 m (pc + 1) ls (.int (nI (a - b)) :: rest))) : W p l e R s m args below meth c H locs cells slots Q (F0 m pc ls (.int (nI b) :: .int (nI a) :: rest)) := lv_isub hx hb hd (by rw [nI_sub h]; exact kk)
theorem idivN {a b : Nat} (hx : p.tables.exec = Jvm.exec) (hb : c.code = cc) (hd : decode cc pc = .ok (.idiv, 1)) (h0 : 0 < b) (h1 : a < 2 ^ 31) (h2 : b < 2 ^ 31) (kk : W p l e R s m args below meth c H locs cells slots Q (F0 m (pc + 1) ls (.int (nI (a / b)) :: rest))) : W p l e R s m args below meth c H locs cells slots Q (F0 m pc ls (.int (nI b) :: .int (nI a) :: rest)) := lv_idiv hx hb hd (nI_ne0 h0 h2) (by rw [nI_div h1 h2]; exact kk)
theorem iremN {a b : Nat} (hx : p.tables.exec = Jvm.exec) (hb : c.code = cc) (hd : decode cc pc = .ok (.irem, 1)) (h0 : 0 < b) (h1 : a < 2 ^ 31) (h2 : b < 2 ^ 31) (kk : W p l e R s m args below meth c H locs cells slots Q (F0 m (pc + 1) ls (.int (nI (a % b)) :: rest))) : W p l e R s m args below meth c H locs cells slots Q (F0 m pc ls (.int (nI b) :: .int (nI a) :: rest)) := lv_irem hx hb hd (nI_ne0 h0 h2) (by rw [nI_rem h1 h2]; exact kk)
theorem toN {x : Int32} {a : Nat} (h : x = nI a) (kk : W p l e R s m args below meth c H locs cells slots Q (F0 m pc ls (.int (nI a) :: rest))) : W p l e R s m args below meth c H locs cells slots Q (F0 m pc ls (.int x :: rest)) := by rw [h]; exact kk
theorem toI {x y : Int32} (h : x = y) (kk : W p l e R s m args below meth c H locs cells slots Q (F0 m pc ls (.int y :: rest))) : W p l e R s m args below meth c H locs cells slots Q (F0 m pc ls (.int x :: rest)) := by rw [h]; exact kk
theorem cmpN_eq {a b : Nat} {off : Int} {tgt : Nat} (hx : p.tables.exec = Jvm.exec) (hb : c.code = cc) (hd : decode cc pc = .ok (.if_icmp .eq off, 3)) (ht : (pc : Int) + off = (tgt : Int)) (h1 : a < 2 ^ 31) (h2 : b < 2 ^ 31) (kt : a = b → W p l e R s m args below meth c H locs cells slots Q (F0 m tgt ls rest)) (kf : ¬ a = b → W p l e R s m args below meth c H locs cells slots Q (F0 m (pc + 3) ls rest)) : W p l e R s m args below meth c H locs cells slots Q (F0 m pc ls (.int (nI b) :: .int (nI a) :: rest)) := lv_icmp_eq hx hb hd ht (fun h => kt ((nI_eq h1 h2).mp h)) (fun h => kf (fun z => h (by rw [z])))
theorem cmpN_ne {a b : Nat} {off : Int} {tgt : Nat} (hx : p.tables.exec = Jvm.exec) (hb : c.code = cc) (hd : decode cc pc = .ok (.if_icmp .ne off, 3)) (ht : (pc : Int) + off = (tgt : Int)) (h1 : a < 2 ^ 31) (h2 : b < 2 ^ 31) (kt : ¬ a = b → W p l e R s m args below meth c H locs cells slots Q (F0 m tgt ls rest)) (kf : a = b → W p l e R s m args below meth c H locs cells slots Q (F0 m (pc + 3) ls rest)) : W p l e R s m args below meth c H locs cells slots Q (F0 m pc ls (.int (nI b) :: .int (nI a) :: rest)) := lv_icmp_ne hx hb hd ht (fun h => kt (fun z => h (by rw [z]))) (fun h => kf ((nI_eq h1 h2).mp h))
theorem cmpN_lt {a b : Nat} {off : Int} {tgt : Nat} (hx : p.tables.exec = Jvm.exec) (hb : c.code = cc) (hd : decode cc pc = .ok (.if_icmp .lt off, 3)) (ht : (pc : Int) + off = (tgt : Int)) (h1 : a < 2 ^ 31) (h2 : b < 2 ^ 31) (kt : a < b → W p l e R s m args below meth c H locs cells slots Q (F0 m tgt ls rest)) (kf : ¬ a < b → W p l e R s m args below meth c H locs cells slots Q (F0 m (pc + 3) ls rest)) : W p l e R s m args below meth c H locs cells slots Q (F0 m pc ls (.int (nI b) :: .int (nI a) :: rest)) := lv_icmp_lt hx hb hd ht (fun h => kt ((nI_ltI h1 h2).mp h)) (fun h => kf (fun z => h ((nI_ltI h1 h2).mpr z)))
theorem cmpN_ge {a b : Nat} {off : Int} {tgt : Nat} (hx : p.tables.exec = Jvm.exec) (hb : c.code = cc) (hd : decode cc pc = .ok (.if_icmp .ge off, 3)) (ht : (pc : Int) + off = (tgt : Int)) (h1 : a < 2 ^ 31) (h2 : b < 2 ^ 31) (kt : b ≤ a → W p l e R s m args below meth c H locs cells slots Q (F0 m tgt ls rest)) (kf : ¬ b ≤ a → W p l e R s m args below meth c H locs cells slots Q (F0 m (pc + 3) ls rest)) : W p l e R s m args below meth c H locs cells slots Q (F0 m pc ls (.int (nI b) :: .int (nI a) :: rest)) := lv_icmp_ge hx hb hd ht (fun h => kt ((nI_leI h2 h1).mp h)) (fun h => kf (fun z => h ((nI_leI h2 h1).mpr z)))
theorem cmpN_gt {a b : Nat} {off : Int} {tgt : Nat} (hx : p.tables.exec = Jvm.exec) (hb : c.code = cc) (hd : decode cc pc = .ok (.if_icmp .gt off, 3)) (ht : (pc : Int) + off = (tgt : Int)) (h1 : a < 2 ^ 31) (h2 : b < 2 ^ 31) (kt : b < a → W p l e R s m args below meth c H locs cells slots Q (F0 m tgt ls rest)) (kf : ¬ b < a → W p l e R s m args below meth c H locs cells slots Q (F0 m (pc + 3) ls rest)) : W p l e R s m args below meth c H locs cells slots Q (F0 m pc ls (.int (nI b) :: .int (nI a) :: rest)) := lv_icmp_gt hx hb hd ht (fun h => kt ((nI_ltI h2 h1).mp h)) (fun h => kf (fun z => h ((nI_ltI h2 h1).mpr z)))
theorem cmpN_le {a b : Nat} {off : Int} {tgt : Nat} (hx : p.tables.exec = Jvm.exec) (hb : c.code = cc) (hd : decode cc pc = .ok (.if_icmp .le off, 3)) (ht : (pc : Int) + off = (tgt : Int)) (h1 : a < 2 ^ 31) (h2 : b < 2 ^ 31) (kt : a ≤ b → W p l e R s m args below meth c H locs cells slots Q (F0 m tgt ls rest)) (kf : ¬ a ≤ b → W p l e R s m args below meth c H locs cells slots Q (F0 m (pc + 3) ls rest)) : W p l e R s m args below meth c H locs cells slots Q (F0 m pc ls (.int (nI b) :: .int (nI a) :: rest)) := lv_icmp_le hx hb hd ht (fun h => kt ((nI_leI h1 h2).mp h)) (fun h => kf (fun z => h ((nI_leI h1 h2).mpr z)))
theorem ifN_eq {a : Nat} {off : Int} {tgt : Nat} (hx : p.tables.exec = Jvm.exec) (hb : c.code = cc) (hd : decode cc pc = .ok (.ifCond .eq off, 3)) (ht : (pc : Int) + off = (tgt : Int)) (h1 : a < 2 ^ 31) (kt : a = 0 → W p l e R s m args below meth c H locs cells slots Q (F0 m tgt ls rest)) (kf : ¬ a = 0 → W p l e R s m args below meth c H locs cells slots Q (F0 m (pc + 3) ls rest)) : W p l e R s m args below meth c H locs cells slots Q (F0 m pc ls (.int (nI a) :: rest)) := lv_if_eq hx hb hd ht (fun h => kt ((nI_eq h1 (by decide)).mp (h.trans nI_0.symm))) (fun h => kf (fun z => h (by rw [z]; exact nI_0)))
theorem ifN_ne {a : Nat} {off : Int} {tgt : Nat} (hx : p.tables.exec = Jvm.exec) (hb : c.code = cc) (hd : decode cc pc = .ok (.ifCond .ne off, 3)) (ht : (pc : Int) + off = (tgt : Int)) (h1 : a < 2 ^ 31) (kt : ¬ a = 0 → W p l e R s m args below meth c H locs cells slots Q (F0 m tgt ls rest)) (kf : a = 0 → W p l e R s m args below meth c H locs cells slots Q (F0 m (pc + 3) ls rest)) : W p l e R s m args below meth c H locs cells slots Q (F0 m pc ls (.int (nI a) :: rest)) := lv_if_ne hx hb hd ht (fun h => kt (fun z => h (by rw [z]; exact nI_0))) (fun h => kf ((nI_eq h1 (by decide)).mp (h.trans nI_0.symm)))
theorem ifN_lt {a : Nat} {off : Int} {tgt : Nat} (hx : p.tables.exec = Jvm.exec) (hb : c.code = cc) (hd : decode cc pc = .ok (.ifCond .lt off, 3)) (ht : (pc : Int) + off = (tgt : Int)) (h1 : a < 2 ^ 31) (kf : W p l e R s m args below meth c H locs cells slots Q (F0 m (pc + 3) ls rest)) : W p l e R s m args below meth c H locs cells slots Q (F0 m pc ls (.int (nI a) :: rest)) := lv_if_lt hx hb hd ht (fun h => absurd h (nI_pos h1)) (fun _ => kf)
theorem ifN_le {a : Nat} {off : Int} {tgt : Nat} (hx : p.tables.exec = Jvm.exec) (hb : c.code = cc) (hd : decode cc pc = .ok (.ifCond .le off, 3)) (ht : (pc : Int) + off = (tgt : Int)) (h1 : a < 2 ^ 31) (kt : a = 0 → W p l e R s m args below meth c H locs cells slots Q (F0 m tgt ls rest)) (kf : ¬ a = 0 → W p l e R s m args below meth c H locs cells slots Q (F0 m (pc + 3) ls rest)) : W p l e R s m args below meth c H locs cells slots Q (F0 m pc ls (.int (nI a) :: rest)) := lv_if_le hx hb hd ht (fun h => kt (Nat.eq_zero_of_not_pos (fun q => nI_nle q h1 h))) (fun h => kf (fun z => h (by rw [z]; exact nI_leI (by decide) (by decide) |>.mpr (Nat.le_refl 0))))
theorem ifN_gt {a : Nat} {off : Int} {tgt : Nat} (hx : p.tables.exec = Jvm.exec) (hb : c.code = cc) (hd : decode cc pc = .ok (.ifCond .gt off, 3)) (ht : (pc : Int) + off = (tgt : Int)) (h1 : a < 2 ^ 31) (kt : 0 < a → W p l e R s m args below meth c H locs cells slots Q (F0 m tgt ls rest)) (kf : ¬ 0 < a → W p l e R s m args below meth c H locs cells slots Q (F0 m (pc + 3) ls rest)) : W p l e R s m args below meth c H locs cells slots Q (F0 m pc ls (.int (nI a) :: rest)) := lv_if_gt hx hb hd ht (fun h => kt ((nI_ltI (by decide) h1).mp (by rw [nI_0]; exact h))) (fun h => kf (fun z => h (by rw [← nI_0]; exact (nI_ltI (by decide) h1).mpr z)))
theorem ifN_ge {a : Nat} {off : Int} {tgt : Nat} (hx : p.tables.exec = Jvm.exec) (hb : c.code = cc) (hd : decode cc pc = .ok (.ifCond .ge off, 3)) (ht : (pc : Int) + off = (tgt : Int)) (h1 : a < 2 ^ 31) (kt : W p l e R s m args below meth c H locs cells slots Q (F0 m tgt ls rest)) : W p l e R s m args below meth c H locs cells slots Q (F0 m pc ls (.int (nI a) :: rest)) := lv_if_ge hx hb hd ht (fun _ => kt) (fun h => absurd (nI_pos' h1) h)
end XCALL
end
section
/-! truth values as numbers; switches -/
def bI (b : Bool) : Int32 := if b then 1 else 0
theorem nar_bI (b : Bool) : narrow .boolean (.int (bI b)) = .int (bI b) := by cases b <;> decide
theorem bI_t : bI true = 1 := rfl
theorem bI_f : bI false = 0 := rfl
theorem bI_z {b : Bool} (h : bI b = 0) : b = false := by
  cases b with
  | false => rfl
  | true => exact absurd h (by decide)
theorem bI_nz {b : Bool} (h : ¬ bI b = 0) : b = true := by
  cases b with
  | false => exact absurd rfl h
  | true => rfl
section BROWS
variable {p : Program} {l : Launch} {e : Env} {s : State} {m : MethodId} {args : Array Value} {below : List Frame} {meth : Method} {c : Code} {H : Heap} {locs : List Loc} {Q : State → Prop} {cc : ByteArray} {pc : Nat} {ls : Array Slot} {rest : List Value} {R : Room} {cells slots : Nat}
theorem ifB_eq {b : Bool} {off : Int} {tgt : Nat} (hx : p.tables.exec = Jvm.exec) (hb : c.code = cc) (hd : decode cc pc = .ok (.ifCond .eq off, 3)) (ht : (pc : Int) + off = (tgt : Int)) (kt : b = false → W p l e R s m args below meth c H locs cells slots Q (F0 m tgt ls rest)) (kf : b = true → W p l e R s m args below meth c H locs cells slots Q (F0 m (pc + 3) ls rest)) : W p l e R s m args below meth c H locs cells slots Q (F0 m pc ls (.int (bI b) :: rest)) := lv_if_eq hx hb hd ht (fun h => kt (bI_z h)) (fun h => kf (bI_nz h))
theorem ifB_ne {b : Bool} {off : Int} {tgt : Nat} (hx : p.tables.exec = Jvm.exec) (hb : c.code = cc) (hd : decode cc pc = .ok (.ifCond .ne off, 3)) (ht : (pc : Int) + off = (tgt : Int)) (kt : b = true → W p l e R s m args below meth c H locs cells slots Q (F0 m tgt ls rest)) (kf : b = false → W p l e R s m args below meth c H locs cells slots Q (F0 m (pc + 3) ls rest)) : W p l e R s m args below meth c H locs cells slots Q (F0 m pc ls (.int (bI b) :: rest)) := lv_if_ne hx hb hd ht (fun h => kt (bI_nz h)) (fun h => kf (bI_z h))
end BROWS
theorem tblOut_0_2 {x : Int32} (h0 : ¬ x = 0) (h1 : ¬ x = 1) (h2 : ¬ x = 2) : x.toInt < 0 ∨ 2 < x.toInt := by
  have a0 := lv_neT (a := 0) h0 rfl
  have a1 := lv_neT (a := 1) h1 rfl
  have a2 := lv_neT (a := 2) h2 rfl
  omega
theorem tblOut_1_3 {x : Int32} (h1 : ¬ x = 1) (h2 : ¬ x = 2) (h3 : ¬ x = 3) : x.toInt < 1 ∨ 3 < x.toInt := by
  have a1 := lv_neT (a := 1) h1 rfl
  have a2 := lv_neT (a := 2) h2 rfl
  have a3 := lv_neT (a := 3) h3 rfl
  omega
theorem tblOut_0_3 {x : Int32} (h0 : ¬ x = 0) (h1 : ¬ x = 1) (h2 : ¬ x = 2) (h3 : ¬ x = 3) : x.toInt < 0 ∨ 3 < x.toInt := by
  have a0 := lv_neT (a := 0) h0 rfl
  have a1 := lv_neT (a := 1) h1 rfl
  have a2 := lv_neT (a := 2) h2 rfl
  have a3 := lv_neT (a := 3) h3 rfl
  omega
theorem tblOut_0_4 {x : Int32} (h0 : ¬ x = 0) (h1 : ¬ x = 1) (h2 : ¬ x = 2) (h3 : ¬ x = 3) (h4 : ¬ x = 4) : x.toInt < 0 ∨ 4 < x.toInt := by
  have a0 := lv_neT (a := 0) h0 rfl
  have a1 := lv_neT (a := 1) h1 rfl
  have a2 := lv_neT (a := 2) h2 rfl
  have a3 := lv_neT (a := 3) h3 rfl
  have a4 := lv_neT (a := 4) h4 rfl
  omega
theorem le_nlt {a b : Int32} (h : b ≤ a) : ¬ a < b := Int32.not_lt.mpr h
theorem nle_lt {a b : Int32} (h : ¬ b ≤ a) : a < b := Int32.not_le.mp h
theorem lt_nle {a b : Int32} (h : a < b) : ¬ b ≤ a := Int32.not_le.mpr h
theorem nlt_le {a b : Int32} (h : ¬ a < b) : b ≤ a := Int32.not_lt.mp h
end
section
/-! the class's functions that touch no object: what they answer -/
def xIsW (x a b : Int32) : Bool := !decide (x < a) && !decide (b < x)
def xIsPl (c r : Int32) : Bool := xIsW c 0 5 && xIsW r 0 5
def xIsAr (c r w h : Int32) : Bool := xIsPl c r && (xIsW w 1 (6 - c) && xIsW h 1 (6 - r))
def xIsCe (x : Int32) : Bool := !decide (x < 0) && !decide (36 ≤ x)
def xAt (c r : Int32) : Int32 := r * 6 + c
def xCol (x : Int32) : Int32 := x - x / 6 * 6
def xRow (x : Int32) : Int32 := x / 6
def xAxis (way : Int32) : Int32 := if way = 0 then 1 else 0
def tKind (t : Int32) : Int32 := t &&& 7
def tFix (t : Int32) : Int32 := (t >>> ((3 : Int32) &&& 31)) &&& 15
def tNum (t : Int32) : Int32 := t >>> ((7 : Int32) &&& 31)
def tCo (t i : Int32) : Int32 := (t >>> (((7 : Int32) + (3 : Int32) * i) &&& 31)) &&& 7
def tWith (t i x : Int32) : Int32 := (t &&& (((7 : Int32) <<< (((7 : Int32) + (3 : Int32) * i) &&& 31)) ^^^ (-1))) ||| (x <<< (((7 : Int32) + (3 : Int32) * i) &&& 31))
def tOfNum (n : Int32) : Int32 := (1 : Int32) ||| (n <<< ((7 : Int32) &&& 31))
def tOfPl (c r f : Int32) : Int32 := tWith (tWith ((2 : Int32) ||| (f <<< ((3 : Int32) &&& 31))) 0 c) 1 r
def tRef (t : Int32) : Bool := decide (tKind t = 2) || decide (tKind t = 3)
def tLeast (t a : Int32) : Int32 := tCo t a
def tGreat (t a : Int32) : Int32 := tCo t (if tKind t = 3 then a + 2 else a)
def tCross (t a : Int32) : Int32 :=
  if (tFix t >>> (a &&& 31)) &&& 1 = (tFix t >>> ((a + 2) &&& 31)) &&& 1 then tWith (tWith t a (tCo t (a + 2))) (a + 2) (tCo t a)
  else tWith (tWith t a (tCo t (a + 2))) (a + 2) (tCo t a) ^^^ (((5 : Int32) <<< (a &&& 31)) <<< ((3 : Int32) &&& 31))
def tOrd1 (t a : Int32) : Int32 := if tCo t (a + 2) < tCo t a then tCross t a else t
def tOrd (t : Int32) : Int32 := tOrd1 (tOrd1 t 0) 1
def tOfBl (x y : Int32) : Int32 := tOrd (tWith (tWith (tWith (tWith ((3 : Int32) ||| ((tFix x ||| (tFix y <<< ((2 : Int32) &&& 31))) <<< ((3 : Int32) &&& 31))) 0 (tCo x 0)) 2 (tCo y 0)) 1 (tCo x 1)) 3 (tCo y 1))
def tCome (t ax a n : Int32) : Int32 :=
  if tRef t = false ∨ tGreat t ax < a then t
  else if (6 : Int32) ≤ (if tLeast t ax < a then tLeast t ax else tLeast t ax + n) then 4
  else if tKind t = 2 then tWith t ax (if tLeast t ax < a then tLeast t ax else tLeast t ax + n)
  else tWith (tWith t ax (if tLeast t ax < a then tLeast t ax else tLeast t ax + n)) (ax + 2) (if (5 : Int32) < tGreat t ax + n then 5 else tGreat t ax + n)
def tGoL (t ax a n : Int32) : Int32 := if tLeast t ax < a then tLeast t ax else if tLeast t ax - n < a then a else tLeast t ax - n
def tGoG (t ax a n : Int32) : Int32 := if tGreat t ax - n < a - 1 then a - 1 else tGreat t ax - n
def tGo (t ax a n : Int32) : Int32 :=
  if tRef t = false ∨ tGreat t ax < a then t
  else if tGoG t ax a n < tGoL t ax a n then 4
  else if tKind t = 2 then tWith t ax (tGoL t ax a n) else tWith (tWith t ax (tGoL t ax a n)) (ax + 2) (tGoG t ax a n)
def furX (t cols rows stay : Int32) (i : Nat) : Int32 := tCo t (nI i) + (if (stay >>> (nI i &&& 31)) &&& 1 = 1 then 0 else if i % 2 = 0 then cols else rows)
def furL (t cols rows stay : Int32) : Nat → Nat → Int32 → Int32
  | 0, _, th => if tKind t = 3 then tOrd th else th
  | k + 1, i, th => if xIsW (furX t cols rows stay i) 0 5 = true then furL t cols rows stay k (i + 1) (tWith th (nI i) (furX t cols rows stay i)) else 4
def tFur (t cols rows stay : Int32) : Int32 := if tRef t = false then t else furL t cols rows stay (if tKind t = 3 then 4 else 2) 0 t
def lnOf (cell ax : Int32) : Int32 := if ax = 0 then xCol cell else xRow cell
def lnCome (ln a n : Int32) : Int32 := if ln < a then ln else if (6 : Int32) ≤ ln + n then -1 else ln + n
def lnGo (ln a n : Int32) : Int32 := if ln < a then ln else if ln < a + n then -1 else ln - n
def rFig (b : Int32) : Bool := !decide (b < 48) && !decide (57 < b)
def rCol (b : Int32) : Int32 := if xIsW (if b < 97 then b - 65 else b - 97) 0 5 = true then (if b < 97 then b - 65 else b - 97) else -1
set_option maxHeartbeats 4000000 in
set_option maxRecDepth 100000 in
theorem c_X8_isWithin (l : Launch) (G : GM) (w : va_W) (x : Int32) (a : Int32) (b : Int32) : XCi l G yX8_isWithin cX8_isWithin 3 (some .boolean) 0 [.int x, .int a, .int b] (w) (bI (xIsW x a b)) (w) := by
  refine xi_start (by decide) (nar_bI _) (Nat.le_of_ble_eq_true rfl) ?_
  intro zp ze zs zm zargs zbelow zmeth zc zQ ls F N hl hret
  have hx := F.1
  have hb := F.2.1
  have hl : lv_has ls 3 [(0, .int x), (1, .int a), (2, .int b)] := hl
  refine lv_iload_n hx hb dX8_isWithin_0 rfl (lv_at hl 0 rfl) ?_
  refine lv_iload_n hx hb dX8_isWithin_1 rfl (lv_at hl 1 rfl) ?_
  refine lv_icmp_lt (tgt := 14) hx hb dX8_isWithin_2 (by decide) (fun c_1 => ?_) (fun c_1 => ?_)
  · have c_1v := lt_nle c_1
    refine lv_iconst (v := 0) hx hb dX8_isWithin_14 (by decide) ?_
    exact hret _ _ _ _ _ _ dX8_isWithin_15 (by first | rfl | (simp [bI, xIsW, c_1, c_1v])) (by first | rfl | (simp [bI, xIsW, c_1, c_1v])) N
  · have c_1v := nlt_le c_1
    refine lv_iload_n hx hb dX8_isWithin_5 rfl (lv_at hl 0 rfl) ?_
    refine lv_iload_n hx hb dX8_isWithin_6 rfl (lv_at hl 2 rfl) ?_
    refine lv_icmp_gt (tgt := 14) hx hb dX8_isWithin_7 (by decide) (fun c_2 => ?_) (fun c_2 => ?_)
    · have c_2v := lt_nle c_2
      refine lv_iconst (v := 0) hx hb dX8_isWithin_14 (by decide) ?_
      exact hret _ _ _ _ _ _ dX8_isWithin_15 (by first | rfl | (simp [bI, xIsW, c_1, c_1v, c_2, c_2v])) (by first | rfl | (simp [bI, xIsW, c_1, c_1v, c_2, c_2v])) N
    · have c_2v := nlt_le c_2
      refine lv_iconst (v := 1) hx hb dX8_isWithin_10 (by decide) ?_
      refine lv_goto (tgt := 15) hx hb dX8_isWithin_11 (by decide) ?_
      exact hret _ _ _ _ _ _ dX8_isWithin_15 (by first | rfl | (simp [bI, xIsW, c_1, c_1v, c_2, c_2v])) (by first | rfl | (simp [bI, xIsW, c_1, c_1v, c_2, c_2v])) N
set_option maxHeartbeats 4000000 in
set_option maxRecDepth 100000 in
theorem c_X8_isPlace (l : Launch) (G : GM) (w : va_W) (c : Int32) (r : Int32) : XCi l G yX8_isPlace cX8_isPlace 2 (some .boolean) 1 [.int c, .int r] (w) (bI (xIsPl c r)) (w) := by
  refine xi_start (by decide) (nar_bI _) (Nat.le_of_ble_eq_true rfl) ?_
  intro zp ze zs zm zargs zbelow zmeth zc zQ ls F N hl hret
  have hx := F.1
  have hb := F.2.1
  have hl : lv_has ls 2 [(0, .int c), (1, .int r)] := hl
  refine lv_iload_n hx hb dX8_isPlace_0 rfl (lv_at hl 0 rfl) ?_
  refine lv_iconst (v := 0) hx hb dX8_isPlace_1 (by decide) ?_
  refine lv_iconst (v := 5) hx hb dX8_isPlace_2 (by decide) ?_
  refine cS_i F N (c_X8_isWithin l G _ c 0 5) miX8_isWithin k_234 (by decide) hl.1 rfl (Nat.le_of_ble_eq_true rfl) dX8_isPlace_3 (fun H locs N => ?_)
  refine ifB_eq (tgt := 22) hx hb dX8_isPlace_6 (by decide) (fun c_1 => ?_) (fun c_1 => ?_)
  · refine lv_iconst (v := 0) hx hb dX8_isPlace_22 (by decide) ?_
    exact hret _ _ _ _ _ _ dX8_isPlace_23 (by first | rfl | (simp [bI, xIsPl, c_1])) (by first | rfl | (simp [bI, xIsPl, c_1])) N
  · refine lv_iload_n hx hb dX8_isPlace_9 rfl (lv_at hl 1 rfl) ?_
    refine lv_iconst (v := 0) hx hb dX8_isPlace_10 (by decide) ?_
    refine lv_iconst (v := 5) hx hb dX8_isPlace_11 (by decide) ?_
    refine cS_i F N (c_X8_isWithin l G _ r 0 5) miX8_isWithin k_234 (by decide) hl.1 rfl (Nat.le_of_ble_eq_true rfl) dX8_isPlace_12 (fun H locs N => ?_)
    refine ifB_eq (tgt := 22) hx hb dX8_isPlace_15 (by decide) (fun c_2 => ?_) (fun c_2 => ?_)
    · refine lv_iconst (v := 0) hx hb dX8_isPlace_22 (by decide) ?_
      exact hret _ _ _ _ _ _ dX8_isPlace_23 (by first | rfl | (simp [bI, xIsPl, c_1, c_2])) (by first | rfl | (simp [bI, xIsPl, c_1, c_2])) N
    · refine lv_iconst (v := 1) hx hb dX8_isPlace_18 (by decide) ?_
      refine lv_goto (tgt := 23) hx hb dX8_isPlace_19 (by decide) ?_
      exact hret _ _ _ _ _ _ dX8_isPlace_23 (by first | rfl | (simp [bI, xIsPl, c_1, c_2])) (by first | rfl | (simp [bI, xIsPl, c_1, c_2])) N
set_option maxHeartbeats 4000000 in
set_option maxRecDepth 100000 in
theorem c_X8_isArea (l : Launch) (G : GM) (w : va_W) (c : Int32) (r : Int32) (w2 : Int32) (h : Int32) : XCi l G yX8_isArea cX8_isArea 4 (some .boolean) 2 [.int c, .int r, .int w2, .int h] (w) (bI (xIsAr c r w2 h)) (w) := by
  refine xi_start (by decide) (nar_bI _) (Nat.le_of_ble_eq_true rfl) ?_
  intro zp ze zs zm zargs zbelow zmeth zc zQ ls F N hl hret
  have hx := F.1
  have hb := F.2.1
  have hl : lv_has ls 4 [(0, .int c), (1, .int r), (2, .int w2), (3, .int h)] := hl
  refine lv_iload_n hx hb dX8_isArea_0 rfl (lv_at hl 0 rfl) ?_
  refine lv_iload_n hx hb dX8_isArea_1 rfl (lv_at hl 1 rfl) ?_
  refine cS_i F N (c_X8_isPlace l G _ c r) miX8_isPlace k_261 (by decide) hl.1 rfl (Nat.le_of_ble_eq_true rfl) dX8_isArea_2 (fun H locs N => ?_)
  refine ifB_eq (tgt := 36) hx hb dX8_isArea_5 (by decide) (fun c_1 => ?_) (fun c_1 => ?_)
  · refine lv_iconst (v := 0) hx hb dX8_isArea_36 (by decide) ?_
    exact hret _ _ _ _ _ _ dX8_isArea_37 (by first | rfl | (simp [bI, xIsAr, c_1])) (by first | rfl | (simp [bI, xIsAr, c_1])) N
  · refine lv_iload_n hx hb dX8_isArea_8 rfl (lv_at hl 2 rfl) ?_
    refine lv_iconst (v := 1) hx hb dX8_isArea_9 (by decide) ?_
    refine lv_bipush (v := 6) hx hb dX8_isArea_10 (by decide) ?_
    refine lv_iload_n hx hb dX8_isArea_12 rfl (lv_at hl 0 rfl) ?_
    refine lv_isub hx hb dX8_isArea_13 ?_
    refine cS_i F N (c_X8_isWithin l G _ w2 1 ((6 : Int32) - c)) miX8_isWithin k_234 (by decide) hl.1 rfl (Nat.le_of_ble_eq_true rfl) dX8_isArea_14 (fun H locs N => ?_)
    refine ifB_eq (tgt := 36) hx hb dX8_isArea_17 (by decide) (fun c_2 => ?_) (fun c_2 => ?_)
    · refine lv_iconst (v := 0) hx hb dX8_isArea_36 (by decide) ?_
      exact hret _ _ _ _ _ _ dX8_isArea_37 (by first | rfl | (simp [bI, xIsAr, c_1, c_2])) (by first | rfl | (simp [bI, xIsAr, c_1, c_2])) N
    · refine lv_iload_n hx hb dX8_isArea_20 rfl (lv_at hl 3 rfl) ?_
      refine lv_iconst (v := 1) hx hb dX8_isArea_21 (by decide) ?_
      refine lv_bipush (v := 6) hx hb dX8_isArea_22 (by decide) ?_
      refine lv_iload_n hx hb dX8_isArea_24 rfl (lv_at hl 1 rfl) ?_
      refine lv_isub hx hb dX8_isArea_25 ?_
      refine cS_i F N (c_X8_isWithin l G _ h 1 ((6 : Int32) - r)) miX8_isWithin k_234 (by decide) hl.1 rfl (Nat.le_of_ble_eq_true rfl) dX8_isArea_26 (fun H locs N => ?_)
      refine ifB_eq (tgt := 36) hx hb dX8_isArea_29 (by decide) (fun c_3 => ?_) (fun c_3 => ?_)
      · refine lv_iconst (v := 0) hx hb dX8_isArea_36 (by decide) ?_
        exact hret _ _ _ _ _ _ dX8_isArea_37 (by first | rfl | (simp [bI, xIsAr, c_1, c_2, c_3])) (by first | rfl | (simp [bI, xIsAr, c_1, c_2, c_3])) N
      · refine lv_iconst (v := 1) hx hb dX8_isArea_32 (by decide) ?_
        refine lv_goto (tgt := 37) hx hb dX8_isArea_33 (by decide) ?_
        exact hret _ _ _ _ _ _ dX8_isArea_37 (by first | rfl | (simp [bI, xIsAr, c_1, c_2, c_3])) (by first | rfl | (simp [bI, xIsAr, c_1, c_2, c_3])) N
set_option maxHeartbeats 4000000 in
set_option maxRecDepth 100000 in
theorem c_X8_isCell (l : Launch) (G : GM) (w : va_W) (x : Int32) : XCi l G yX8_isCell cX8_isCell 1 (some .boolean) 0 [.int x] (w) (bI (xIsCe x)) (w) := by
  refine xi_start (by decide) (nar_bI _) (Nat.le_of_ble_eq_true rfl) ?_
  intro zp ze zs zm zargs zbelow zmeth zc zQ ls F N hl hret
  have hx := F.1
  have hb := F.2.1
  have hl : lv_has ls 1 [(0, .int x)] := hl
  refine lv_iload_n hx hb dX8_isCell_0 rfl (lv_at hl 0 rfl) ?_
  refine lv_if_lt (tgt := 14) hx hb dX8_isCell_1 (by decide) (fun c_1 => ?_) (fun c_1 => ?_)
  · have c_1v := lt_nle c_1
    refine lv_iconst (v := 0) hx hb dX8_isCell_14 (by decide) ?_
    exact hret _ _ _ _ _ _ dX8_isCell_15 (by first | rfl | (simp [bI, xIsCe, c_1, c_1v])) (by first | rfl | (simp [bI, xIsCe, c_1, c_1v])) N
  · have c_1v := nlt_le c_1
    refine lv_iload_n hx hb dX8_isCell_4 rfl (lv_at hl 0 rfl) ?_
    refine lv_bipush (v := 36) hx hb dX8_isCell_5 (by decide) ?_
    refine lv_icmp_ge (tgt := 14) hx hb dX8_isCell_7 (by decide) (fun c_2 => ?_) (fun c_2 => ?_)
    · have c_2v := le_nlt c_2
      refine lv_iconst (v := 0) hx hb dX8_isCell_14 (by decide) ?_
      exact hret _ _ _ _ _ _ dX8_isCell_15 (by first | rfl | (simp [bI, xIsCe, c_1, c_1v, c_2, c_2v])) (by first | rfl | (simp [bI, xIsCe, c_1, c_1v, c_2, c_2v])) N
    · have c_2v := nle_lt c_2
      refine lv_iconst (v := 1) hx hb dX8_isCell_10 (by decide) ?_
      refine lv_goto (tgt := 15) hx hb dX8_isCell_11 (by decide) ?_
      exact hret _ _ _ _ _ _ dX8_isCell_15 (by first | rfl | (simp [bI, xIsCe, c_1, c_1v, c_2, c_2v])) (by first | rfl | (simp [bI, xIsCe, c_1, c_1v, c_2, c_2v])) N
set_option maxHeartbeats 4000000 in
set_option maxRecDepth 100000 in
theorem c_X8_cellAt (l : Launch) (G : GM) (w : va_W) (c : Int32) (r : Int32) : XCi l G yX8_cellAt cX8_cellAt 2 (some .int) 0 [.int c, .int r] (w) (xAt c r) (w) := by
  refine xi_start (by decide) rfl (Nat.le_of_ble_eq_true rfl) ?_
  intro zp ze zs zm zargs zbelow zmeth zc zQ ls F N hl hret
  have hx := F.1
  have hb := F.2.1
  have hl : lv_has ls 2 [(0, .int c), (1, .int r)] := hl
  refine lv_iload_n hx hb dX8_cellAt_0 rfl (lv_at hl 1 rfl) ?_
  refine lv_bipush (v := 6) hx hb dX8_cellAt_1 (by decide) ?_
  refine lv_imul hx hb dX8_cellAt_3 ?_
  refine lv_iload_n hx hb dX8_cellAt_4 rfl (lv_at hl 0 rfl) ?_
  refine lv_iadd hx hb dX8_cellAt_5 ?_
  exact hret _ _ _ _ _ _ dX8_cellAt_6 (by first | rfl | (simp [bI, xAt])) (by first | rfl | (simp [bI, xAt])) N
set_option maxHeartbeats 4000000 in
set_option maxRecDepth 100000 in
theorem c_X8_columnOf (l : Launch) (G : GM) (w : va_W) (x : Int32) : XCi l G yX8_columnOf cX8_columnOf 1 (some .int) 0 [.int x] (w) (xCol x) (w) := by
  refine xi_start (by decide) rfl (Nat.le_of_ble_eq_true rfl) ?_
  intro zp ze zs zm zargs zbelow zmeth zc zQ ls F N hl hret
  have hx := F.1
  have hb := F.2.1
  have hl : lv_has ls 1 [(0, .int x)] := hl
  refine lv_iload_n hx hb dX8_columnOf_0 rfl (lv_at hl 0 rfl) ?_
  refine lv_bipush (v := 6) hx hb dX8_columnOf_1 (by decide) ?_
  refine lv_irem hx hb dX8_columnOf_3 (by decide) ?_
  exact hret _ _ _ _ _ _ dX8_columnOf_4 (by first | rfl | (simp [bI, xCol])) (by first | rfl | (simp [bI, xCol])) N
set_option maxHeartbeats 4000000 in
set_option maxRecDepth 100000 in
theorem c_X8_rowOf (l : Launch) (G : GM) (w : va_W) (x : Int32) : XCi l G yX8_rowOf cX8_rowOf 1 (some .int) 0 [.int x] (w) (xRow x) (w) := by
  refine xi_start (by decide) rfl (Nat.le_of_ble_eq_true rfl) ?_
  intro zp ze zs zm zargs zbelow zmeth zc zQ ls F N hl hret
  have hx := F.1
  have hb := F.2.1
  have hl : lv_has ls 1 [(0, .int x)] := hl
  refine lv_iload_n hx hb dX8_rowOf_0 rfl (lv_at hl 0 rfl) ?_
  refine lv_bipush (v := 6) hx hb dX8_rowOf_1 (by decide) ?_
  refine lv_idiv hx hb dX8_rowOf_3 (by decide) ?_
  exact hret _ _ _ _ _ _ dX8_rowOf_4 (by first | rfl | (simp [bI, xRow])) (by first | rfl | (simp [bI, xRow])) N
set_option maxHeartbeats 4000000 in
set_option maxRecDepth 100000 in
theorem c_X8_axisOf (l : Launch) (G : GM) (w : va_W) (way : Int32) : XCi l G yX8_axisOf cX8_axisOf 1 (some .int) 0 [.int way] (w) (xAxis way) (w) := by
  refine xi_start (by decide) rfl (Nat.le_of_ble_eq_true rfl) ?_
  intro zp ze zs zm zargs zbelow zmeth zc zQ ls F N hl hret
  have hx := F.1
  have hb := F.2.1
  have hl : lv_has ls 1 [(0, .int way)] := hl
  refine lv_iload_n hx hb dX8_axisOf_0 rfl (lv_at hl 0 rfl) ?_
  refine lv_if_ne (tgt := 8) hx hb dX8_axisOf_1 (by decide) (fun c_1 => ?_) (fun c_1 => ?_)
  · refine lv_iconst (v := 0) hx hb dX8_axisOf_8 (by decide) ?_
    exact hret _ _ _ _ _ _ dX8_axisOf_9 (by first | rfl | (simp [bI, xAxis, c_1])) (by first | rfl | (simp [bI, xAxis, c_1])) N
  · refine lv_iconst (v := 1) hx hb dX8_axisOf_4 (by decide) ?_
    refine lv_goto (tgt := 9) hx hb dX8_axisOf_5 (by decide) ?_
    exact hret _ _ _ _ _ _ dX8_axisOf_9 (by first | rfl | (simp [bI, xAxis, c_1])) (by first | rfl | (simp [bI, xAxis, c_1])) N
set_option maxHeartbeats 4000000 in
set_option maxRecDepth 100000 in
theorem c_X5_kind (l : Launch) (G : GM) (w : va_W) (t : Int32) : XCi l G yX5_kind cX5_kind 1 (some .int) 0 [.int t] (w) (tKind t) (w) := by
  refine xi_start (by decide) rfl (Nat.le_of_ble_eq_true rfl) ?_
  intro zp ze zs zm zargs zbelow zmeth zc zQ ls F N hl hret
  have hx := F.1
  have hb := F.2.1
  have hl : lv_has ls 1 [(0, .int t)] := hl
  refine lv_iload_n hx hb dX5_kind_0 rfl (lv_at hl 0 rfl) ?_
  refine lv_bipush (v := 7) hx hb dX5_kind_1 (by decide) ?_
  refine lv_iand hx hb dX5_kind_3 ?_
  exact hret _ _ _ _ _ _ dX5_kind_4 (by first | rfl | (simp [bI])) (by first | rfl | (simp [bI])) N
set_option maxHeartbeats 4000000 in
set_option maxRecDepth 100000 in
theorem c_X5_fixed (l : Launch) (G : GM) (w : va_W) (t : Int32) : XCi l G yX5_fixed cX5_fixed 1 (some .int) 0 [.int t] (w) (tFix t) (w) := by
  refine xi_start (by decide) rfl (Nat.le_of_ble_eq_true rfl) ?_
  intro zp ze zs zm zargs zbelow zmeth zc zQ ls F N hl hret
  have hx := F.1
  have hb := F.2.1
  have hl : lv_has ls 1 [(0, .int t)] := hl
  refine lv_iload_n hx hb dX5_fixed_0 rfl (lv_at hl 0 rfl) ?_
  refine lv_iconst (v := 3) hx hb dX5_fixed_1 (by decide) ?_
  refine lv_ishr hx hb dX5_fixed_2 ?_
  refine lv_bipush (v := 15) hx hb dX5_fixed_3 (by decide) ?_
  refine lv_iand hx hb dX5_fixed_5 ?_
  exact hret _ _ _ _ _ _ dX5_fixed_6 (by first | rfl | (simp [bI])) (by first | rfl | (simp [bI])) N
set_option maxHeartbeats 4000000 in
set_option maxRecDepth 100000 in
theorem c_X5_number (l : Launch) (G : GM) (w : va_W) (t : Int32) : XCi l G yX5_number cX5_number 1 (some .int) 0 [.int t] (w) (tNum t) (w) := by
  refine xi_start (by decide) rfl (Nat.le_of_ble_eq_true rfl) ?_
  intro zp ze zs zm zargs zbelow zmeth zc zQ ls F N hl hret
  have hx := F.1
  have hb := F.2.1
  have hl : lv_has ls 1 [(0, .int t)] := hl
  refine lv_iload_n hx hb dX5_number_0 rfl (lv_at hl 0 rfl) ?_
  refine lv_bipush (v := 7) hx hb dX5_number_1 (by decide) ?_
  refine lv_ishr hx hb dX5_number_3 ?_
  exact hret _ _ _ _ _ _ dX5_number_4 (by first | rfl | (simp [bI])) (by first | rfl | (simp [bI])) N
set_option maxHeartbeats 4000000 in
set_option maxRecDepth 100000 in
theorem c_X5_coordinate (l : Launch) (G : GM) (w : va_W) (t : Int32) (i : Int32) : XCi l G yX5_coordinate cX5_coordinate 2 (some .int) 0 [.int t, .int i] (w) (tCo t i) (w) := by
  refine xi_start (by decide) rfl (Nat.le_of_ble_eq_true rfl) ?_
  intro zp ze zs zm zargs zbelow zmeth zc zQ ls F N hl hret
  have hx := F.1
  have hb := F.2.1
  have hl : lv_has ls 2 [(0, .int t), (1, .int i)] := hl
  refine lv_iload_n hx hb dX5_coordinate_0 rfl (lv_at hl 0 rfl) ?_
  refine lv_bipush (v := 7) hx hb dX5_coordinate_1 (by decide) ?_
  refine lv_iconst (v := 3) hx hb dX5_coordinate_3 (by decide) ?_
  refine lv_iload_n hx hb dX5_coordinate_4 rfl (lv_at hl 1 rfl) ?_
  refine lv_imul hx hb dX5_coordinate_5 ?_
  refine lv_iadd hx hb dX5_coordinate_6 ?_
  refine lv_ishr hx hb dX5_coordinate_7 ?_
  refine lv_bipush (v := 7) hx hb dX5_coordinate_8 (by decide) ?_
  refine lv_iand hx hb dX5_coordinate_10 ?_
  exact hret _ _ _ _ _ _ dX5_coordinate_11 (by first | rfl | (simp [bI])) (by first | rfl | (simp [bI])) N
set_option maxHeartbeats 4000000 in
set_option maxRecDepth 100000 in
theorem c_X5_with (l : Launch) (G : GM) (w : va_W) (t : Int32) (i : Int32) (x : Int32) : XCi l G yX5_with cX5_with 4 (some .int) 0 [.int t, .int i, .int x] (w) (tWith t i x) (w) := by
  refine xi_start (by decide) rfl (Nat.le_of_ble_eq_true rfl) ?_
  intro zp ze zs zm zargs zbelow zmeth zc zQ ls F N hl hret
  have hx := F.1
  have hb := F.2.1
  have hl : lv_has ls 4 [(0, .int t), (1, .int i), (2, .int x)] := hl
  refine lv_bipush (v := 7) hx hb dX5_with_0 (by decide) ?_
  refine lv_iconst (v := 3) hx hb dX5_with_2 (by decide) ?_
  refine lv_iload_n hx hb dX5_with_3 rfl (lv_at hl 1 rfl) ?_
  refine lv_imul hx hb dX5_with_4 ?_
  refine lv_iadd hx hb dX5_with_5 ?_
  refine lv_istore_n (lv' := [(3, .int ((7 : Int32) + ((3 : Int32) * i))), (0, .int t), (1, .int i), (2, .int x)]) hx hb dX5_with_6 rfl hl (by decide) rfl (fun ls hl => ?_)
  refine lv_iload_n hx hb dX5_with_7 rfl (lv_at hl 1 rfl) ?_
  refine lv_bipush (v := 7) hx hb dX5_with_8 (by decide) ?_
  refine lv_iload_n hx hb dX5_with_10 rfl (lv_at hl 0 rfl) ?_
  refine lv_ishl hx hb dX5_with_11 ?_
  refine lv_iconst (v := (-1)) hx hb dX5_with_12 (by decide) ?_
  refine lv_ixor hx hb dX5_with_13 ?_
  refine lv_iand hx hb dX5_with_14 ?_
  refine lv_iload_n hx hb dX5_with_15 rfl (lv_at hl 3 rfl) ?_
  refine lv_iload_n hx hb dX5_with_16 rfl (lv_at hl 0 rfl) ?_
  refine lv_ishl hx hb dX5_with_17 ?_
  refine lv_ior hx hb dX5_with_18 ?_
  exact hret _ _ _ _ _ _ dX5_with_19 (by first | rfl | (simp [bI])) (by first | rfl | (simp [bI])) N
set_option maxHeartbeats 4000000 in
set_option maxRecDepth 100000 in
theorem c_X5_ofNumber (l : Launch) (G : GM) (w : va_W) (n : Int32) : XCi l G yX5_ofNumber cX5_ofNumber 1 (some .int) 0 [.int n] (w) (tOfNum n) (w) := by
  refine xi_start (by decide) rfl (Nat.le_of_ble_eq_true rfl) ?_
  intro zp ze zs zm zargs zbelow zmeth zc zQ ls F N hl hret
  have hx := F.1
  have hb := F.2.1
  have hl : lv_has ls 1 [(0, .int n)] := hl
  refine lv_iconst (v := 1) hx hb dX5_ofNumber_0 (by decide) ?_
  refine lv_iload_n hx hb dX5_ofNumber_1 rfl (lv_at hl 0 rfl) ?_
  refine lv_bipush (v := 7) hx hb dX5_ofNumber_2 (by decide) ?_
  refine lv_ishl hx hb dX5_ofNumber_4 ?_
  refine lv_ior hx hb dX5_ofNumber_5 ?_
  exact hret _ _ _ _ _ _ dX5_ofNumber_6 (by first | rfl | (simp [bI])) (by first | rfl | (simp [bI])) N
set_option maxHeartbeats 4000000 in
set_option maxRecDepth 100000 in
theorem c_X5_ofPlace (l : Launch) (G : GM) (w : va_W) (c : Int32) (r : Int32) (f : Int32) : XCi l G yX5_ofPlace cX5_ofPlace 4 (some .int) 1 [.int c, .int r, .int f] (w) (tOfPl c r f) (w) := by
  refine xi_start (by decide) rfl (Nat.le_of_ble_eq_true rfl) ?_
  intro zp ze zs zm zargs zbelow zmeth zc zQ ls F N hl hret
  have hx := F.1
  have hb := F.2.1
  have hl : lv_has ls 4 [(0, .int c), (1, .int r), (2, .int f)] := hl
  refine lv_iconst (v := 2) hx hb dX5_ofPlace_0 (by decide) ?_
  refine lv_iload_n hx hb dX5_ofPlace_1 rfl (lv_at hl 2 rfl) ?_
  refine lv_iconst (v := 3) hx hb dX5_ofPlace_2 (by decide) ?_
  refine lv_ishl hx hb dX5_ofPlace_3 ?_
  refine lv_ior hx hb dX5_ofPlace_4 ?_
  refine lv_istore_n (lv' := [(3, .int ((2 : Int32) ||| (f <<< ((3 : Int32) &&& 31)))), (0, .int c), (1, .int r), (2, .int f)]) hx hb dX5_ofPlace_5 rfl hl (by decide) rfl (fun ls hl => ?_)
  refine lv_iload_n hx hb dX5_ofPlace_6 rfl (lv_at hl 0 rfl) ?_
  refine lv_iconst (v := 0) hx hb dX5_ofPlace_7 (by decide) ?_
  refine lv_iload_n hx hb dX5_ofPlace_8 rfl (lv_at hl 1 rfl) ?_
  refine cS_i F N (c_X5_with l G _ ((2 : Int32) ||| (f <<< ((3 : Int32) &&& 31))) 0 c) miX5_with k_310 (by decide) hl.1 rfl (Nat.le_of_ble_eq_true rfl) dX5_ofPlace_9 (fun H locs N => ?_)
  refine lv_iconst (v := 1) hx hb dX5_ofPlace_12 (by decide) ?_
  refine lv_iload_n hx hb dX5_ofPlace_13 rfl (lv_at hl 2 rfl) ?_
  refine cS_i F N (c_X5_with l G _ (tWith ((2 : Int32) ||| (f <<< ((3 : Int32) &&& 31))) (0 : Int32) c) 1 r) miX5_with k_310 (by decide) hl.1 rfl (Nat.le_of_ble_eq_true rfl) dX5_ofPlace_14 (fun H locs N => ?_)
  exact hret _ _ _ _ _ _ dX5_ofPlace_17 (by first | rfl | (simp [bI])) (by first | rfl | (simp [bI])) N
set_option maxHeartbeats 4000000 in
set_option maxRecDepth 100000 in
theorem c_X5_refers (l : Launch) (G : GM) (w : va_W) (t : Int32) : XCi l G yX5_refers cX5_refers 1 (some .boolean) 1 [.int t] (w) (bI (tRef t)) (w) := by
  refine xi_start (by decide) (nar_bI _) (Nat.le_of_ble_eq_true rfl) ?_
  intro zp ze zs zm zargs zbelow zmeth zc zQ ls F N hl hret
  have hx := F.1
  have hb := F.2.1
  have hl : lv_has ls 1 [(0, .int t)] := hl
  refine lv_iload_n hx hb dX5_refers_0 rfl (lv_at hl 0 rfl) ?_
  refine cS_i F N (c_X5_kind l G _ t) miX5_kind k_428 (by decide) hl.1 rfl (Nat.le_of_ble_eq_true rfl) dX5_refers_1 (fun H locs N => ?_)
  refine lv_iconst (v := 2) hx hb dX5_refers_4 (by decide) ?_
  refine lv_icmp_eq (tgt := 16) hx hb dX5_refers_5 (by decide) (fun c_1 => ?_) (fun c_1 => ?_)
  · refine lv_iconst (v := 1) hx hb dX5_refers_16 (by decide) ?_
    refine lv_goto (tgt := 21) hx hb dX5_refers_17 (by decide) ?_
    exact hret _ _ _ _ _ _ dX5_refers_21 (by first | rfl | (simp [bI, tRef, c_1])) (by first | rfl | (simp [bI, tRef, c_1])) N
  · refine lv_iload_n hx hb dX5_refers_8 rfl (lv_at hl 0 rfl) ?_
    refine cS_i F N (c_X5_kind l G _ t) miX5_kind k_428 (by decide) hl.1 rfl (Nat.le_of_ble_eq_true rfl) dX5_refers_9 (fun H locs N => ?_)
    refine lv_iconst (v := 3) hx hb dX5_refers_12 (by decide) ?_
    refine lv_icmp_ne (tgt := 20) hx hb dX5_refers_13 (by decide) (fun c_2 => ?_) (fun c_2 => ?_)
    · refine lv_iconst (v := 0) hx hb dX5_refers_20 (by decide) ?_
      exact hret _ _ _ _ _ _ dX5_refers_21 (by first | rfl | (simp [bI, tRef, c_1, c_2])) (by first | rfl | (simp [bI, tRef, c_1, c_2])) N
    · refine lv_iconst (v := 1) hx hb dX5_refers_16 (by decide) ?_
      refine lv_goto (tgt := 21) hx hb dX5_refers_17 (by decide) ?_
      exact hret _ _ _ _ _ _ dX5_refers_21 (by first | rfl | (simp [bI, tRef, c_1, c_2])) (by first | rfl | (simp [bI, tRef, c_1, c_2])) N
set_option maxHeartbeats 4000000 in
set_option maxRecDepth 100000 in
theorem c_X5_least (l : Launch) (G : GM) (w : va_W) (t : Int32) (a : Int32) : XCi l G yX5_least cX5_least 2 (some .int) 1 [.int t, .int a] (w) (tLeast t a) (w) := by
  refine xi_start (by decide) rfl (Nat.le_of_ble_eq_true rfl) ?_
  intro zp ze zs zm zargs zbelow zmeth zc zQ ls F N hl hret
  have hx := F.1
  have hb := F.2.1
  have hl : lv_has ls 2 [(0, .int t), (1, .int a)] := hl
  refine lv_iload_n hx hb dX5_least_0 rfl (lv_at hl 0 rfl) ?_
  refine lv_iload_n hx hb dX5_least_1 rfl (lv_at hl 1 rfl) ?_
  refine cS_i F N (c_X5_coordinate l G _ t a) miX5_coordinate k_319 (by decide) hl.1 rfl (Nat.le_of_ble_eq_true rfl) dX5_least_2 (fun H locs N => ?_)
  exact hret _ _ _ _ _ _ dX5_least_5 (by first | rfl | (simp [bI])) (by first | rfl | (simp [bI])) N
set_option maxHeartbeats 4000000 in
set_option maxRecDepth 100000 in
theorem c_X5_greatest (l : Launch) (G : GM) (w : va_W) (t : Int32) (a : Int32) : XCi l G yX5_greatest cX5_greatest 2 (some .int) 1 [.int t, .int a] (w) (tGreat t a) (w) := by
  refine xi_start (by decide) rfl (Nat.le_of_ble_eq_true rfl) ?_
  intro zp ze zs zm zargs zbelow zmeth zc zQ ls F N hl hret
  have hx := F.1
  have hb := F.2.1
  have hl : lv_has ls 2 [(0, .int t), (1, .int a)] := hl
  refine lv_iload_n hx hb dX5_greatest_0 rfl (lv_at hl 0 rfl) ?_
  refine lv_iload_n hx hb dX5_greatest_1 rfl (lv_at hl 0 rfl) ?_
  refine cS_i F N (c_X5_kind l G _ t) miX5_kind k_428 (by decide) hl.1 rfl (Nat.le_of_ble_eq_true rfl) dX5_greatest_2 (fun H locs N => ?_)
  refine lv_iconst (v := 3) hx hb dX5_greatest_5 (by decide) ?_
  refine lv_icmp_ne (tgt := 15) hx hb dX5_greatest_6 (by decide) (fun c_1 => ?_) (fun c_1 => ?_)
  · refine lv_iload_n hx hb dX5_greatest_15 rfl (lv_at hl 1 rfl) ?_
    refine cS_i F N (c_X5_coordinate l G _ t a) miX5_coordinate k_319 (by decide) hl.1 rfl (Nat.le_of_ble_eq_true rfl) dX5_greatest_16 (fun H locs N => ?_)
    exact hret _ _ _ _ _ _ dX5_greatest_19 (by first | rfl | (simp [bI, tGreat, c_1])) (by first | rfl | (simp [bI, tGreat, c_1])) N
  · refine lv_iload_n hx hb dX5_greatest_9 rfl (lv_at hl 1 rfl) ?_
    refine lv_iconst (v := 2) hx hb dX5_greatest_10 (by decide) ?_
    refine lv_iadd hx hb dX5_greatest_11 ?_
    refine lv_goto (tgt := 16) hx hb dX5_greatest_12 (by decide) ?_
    refine cS_i F N (c_X5_coordinate l G _ t (a + (2 : Int32))) miX5_coordinate k_319 (by decide) hl.1 rfl (Nat.le_of_ble_eq_true rfl) dX5_greatest_16 (fun H locs N => ?_)
    exact hret _ _ _ _ _ _ dX5_greatest_19 (by first | rfl | (simp [bI, tGreat, c_1])) (by first | rfl | (simp [bI, tGreat, c_1])) N
set_option maxHeartbeats 4000000 in
set_option maxRecDepth 100000 in
theorem c_X5_crossed (l : Launch) (G : GM) (w : va_W) (t : Int32) (a : Int32) : XCi l G yX5_crossed cX5_crossed 7 (some .int) 1 [.int t, .int a] (w) (tCross t a) (w) := by
  refine xi_start (by decide) rfl (Nat.le_of_ble_eq_true rfl) ?_
  intro zp ze zs zm zargs zbelow zmeth zc zQ ls F N hl hret
  have hx := F.1
  have hb := F.2.1
  have hl : lv_has ls 7 [(0, .int t), (1, .int a)] := hl
  refine lv_iload_n hx hb dX5_crossed_0 rfl (lv_at hl 0 rfl) ?_
  refine lv_iload_n hx hb dX5_crossed_1 rfl (lv_at hl 1 rfl) ?_
  refine cS_i F N (c_X5_coordinate l G _ t a) miX5_coordinate k_319 (by decide) hl.1 rfl (Nat.le_of_ble_eq_true rfl) dX5_crossed_2 (fun H locs N => ?_)
  refine lv_istore_n (lv' := [(2, .int (tCo t a)), (0, .int t), (1, .int a)]) hx hb dX5_crossed_5 rfl hl (by decide) rfl (fun ls hl => ?_)
  refine lv_iload_n hx hb dX5_crossed_6 rfl (lv_at hl 1 rfl) ?_
  refine lv_iload_n hx hb dX5_crossed_7 rfl (lv_at hl 2 rfl) ?_
  refine lv_iconst (v := 2) hx hb dX5_crossed_8 (by decide) ?_
  refine lv_iadd hx hb dX5_crossed_9 ?_
  refine cS_i F N (c_X5_coordinate l G _ t (a + (2 : Int32))) miX5_coordinate k_319 (by decide) hl.1 rfl (Nat.le_of_ble_eq_true rfl) dX5_crossed_10 (fun H locs N => ?_)
  refine lv_istore_n (lv' := [(3, .int (tCo t (a + (2 : Int32)))), (2, .int (tCo t a)), (0, .int t), (1, .int a)]) hx hb dX5_crossed_13 rfl hl (by decide) rfl (fun ls hl => ?_)
  refine lv_iload_n hx hb dX5_crossed_14 rfl (lv_at hl 2 rfl) ?_
  refine lv_iload_n hx hb dX5_crossed_15 rfl (lv_at hl 3 rfl) ?_
  refine lv_iload_n hx hb dX5_crossed_16 rfl (lv_at hl 0 rfl) ?_
  refine cS_i F N (c_X5_with l G _ t a (tCo t (a + (2 : Int32)))) miX5_with k_310 (by decide) hl.1 rfl (Nat.le_of_ble_eq_true rfl) dX5_crossed_17 (fun H locs N => ?_)
  refine lv_iload_n hx hb dX5_crossed_20 rfl (lv_at hl 3 rfl) ?_
  refine lv_iconst (v := 2) hx hb dX5_crossed_21 (by decide) ?_
  refine lv_iadd hx hb dX5_crossed_22 ?_
  refine lv_iload_n hx hb dX5_crossed_23 rfl (lv_at hl 1 rfl) ?_
  refine cS_i F N (c_X5_with l G _ (tWith t a (tCo t (a + (2 : Int32)))) (a + (2 : Int32)) (tCo t a)) miX5_with k_310 (by decide) hl.1 rfl (Nat.le_of_ble_eq_true rfl) dX5_crossed_24 (fun H locs N => ?_)
  refine lv_istore (lv' := [(4, .int (tWith (tWith t a (tCo t (a + (2 : Int32)))) (a + (2 : Int32)) (tCo t a))), (3, .int (tCo t (a + (2 : Int32)))), (2, .int (tCo t a)), (0, .int t), (1, .int a)]) hx hb dX5_crossed_27 hl (by decide) rfl (fun ls hl => ?_)
  refine lv_iload_n hx hb dX5_crossed_29 rfl (lv_at hl 3 rfl) ?_
  refine cS_i F N (c_X5_fixed l G _ t) miX5_fixed k_316 (by decide) hl.1 rfl (Nat.le_of_ble_eq_true rfl) dX5_crossed_30 (fun H locs N => ?_)
  refine lv_iload_n hx hb dX5_crossed_33 rfl (lv_at hl 4 rfl) ?_
  refine lv_ishr hx hb dX5_crossed_34 ?_
  refine lv_iconst (v := 1) hx hb dX5_crossed_35 (by decide) ?_
  refine lv_iand hx hb dX5_crossed_36 ?_
  refine lv_istore (lv' := [(5, .int (((tFix t) >>> (a &&& 31)) &&& (1 : Int32))), (4, .int (tWith (tWith t a (tCo t (a + (2 : Int32)))) (a + (2 : Int32)) (tCo t a))), (3, .int (tCo t (a + (2 : Int32)))), (2, .int (tCo t a)), (0, .int t), (1, .int a)]) hx hb dX5_crossed_37 hl (by decide) rfl (fun ls hl => ?_)
  refine lv_iload_n hx hb dX5_crossed_39 rfl (lv_at hl 4 rfl) ?_
  refine cS_i F N (c_X5_fixed l G _ t) miX5_fixed k_316 (by decide) hl.1 rfl (Nat.le_of_ble_eq_true rfl) dX5_crossed_40 (fun H locs N => ?_)
  refine lv_iload_n hx hb dX5_crossed_43 rfl (lv_at hl 5 rfl) ?_
  refine lv_iconst (v := 2) hx hb dX5_crossed_44 (by decide) ?_
  refine lv_iadd hx hb dX5_crossed_45 ?_
  refine lv_ishr hx hb dX5_crossed_46 ?_
  refine lv_iconst (v := 1) hx hb dX5_crossed_47 (by decide) ?_
  refine lv_iand hx hb dX5_crossed_48 ?_
  refine lv_istore (lv' := [(6, .int (((tFix t) >>> ((a + (2 : Int32)) &&& 31)) &&& (1 : Int32))), (5, .int (((tFix t) >>> (a &&& 31)) &&& (1 : Int32))), (4, .int (tWith (tWith t a (tCo t (a + (2 : Int32)))) (a + (2 : Int32)) (tCo t a))), (3, .int (tCo t (a + (2 : Int32)))), (2, .int (tCo t a)), (0, .int t), (1, .int a)]) hx hb dX5_crossed_49 hl (by decide) rfl (fun ls hl => ?_)
  refine lv_iload hx hb dX5_crossed_51 (lv_at hl 1 rfl) ?_
  refine lv_iload hx hb dX5_crossed_53 (lv_at hl 0 rfl) ?_
  refine lv_icmp_ne (tgt := 63) hx hb dX5_crossed_55 (by decide) (fun c_1 => ?_) (fun c_1 => ?_)
  · refine lv_iload hx hb dX5_crossed_63 (lv_at hl 2 rfl) ?_
    refine lv_iconst (v := 5) hx hb dX5_crossed_65 (by decide) ?_
    refine lv_iload_n hx hb dX5_crossed_66 rfl (lv_at hl 6 rfl) ?_
    refine lv_ishl hx hb dX5_crossed_67 ?_
    refine lv_iconst (v := 3) hx hb dX5_crossed_68 (by decide) ?_
    refine lv_ishl hx hb dX5_crossed_69 ?_
    refine lv_ixor hx hb dX5_crossed_70 ?_
    exact hret _ _ _ _ _ _ dX5_crossed_71 (by first | rfl | (simp [bI, tCross, c_1])) (by first | rfl | (simp [bI, tCross, c_1])) N
  · refine lv_iload hx hb dX5_crossed_58 (lv_at hl 2 rfl) ?_
    refine lv_goto (tgt := 71) hx hb dX5_crossed_60 (by decide) ?_
    exact hret _ _ _ _ _ _ dX5_crossed_71 (by first | rfl | (simp [bI, tCross, c_1])) (by first | rfl | (simp [bI, tCross, c_1])) N
set_option maxHeartbeats 4000000 in
set_option maxRecDepth 100000 in
theorem c_X5_ordered (l : Launch) (G : GM) (w : va_W) (t : Int32) : XCi l G yX5_ordered cX5_ordered 3 (some .int) 2 [.int t] (w) (tOrd t) (w) := by
  refine xi_start (by decide) rfl (Nat.le_of_ble_eq_true rfl) ?_
  intro zp ze zs zm zargs zbelow zmeth zc zQ ls F N hl hret
  have hx := F.1
  have hb := F.2.1
  have hl : lv_has ls 3 [(0, .int t)] := hl
  refine lv_iload_n hx hb dX5_ordered_0 rfl (lv_at hl 0 rfl) ?_
  refine lv_istore_n (lv' := [(1, .int t), (0, .int t)]) hx hb dX5_ordered_1 rfl hl (by decide) rfl (fun ls hl => ?_)
  refine lv_iconst (v := 0) hx hb dX5_ordered_2 (by decide) ?_
  refine lv_istore_n (lv' := [(2, .int 0), (1, .int t), (0, .int t)]) hx hb dX5_ordered_3 rfl hl (by decide) rfl (fun ls hl => ?_)
  refine lv_iload_n hx hb dX5_ordered_4 rfl (lv_at hl 0 rfl) ?_
  refine lv_iconst (v := 1) hx hb dX5_ordered_5 (by decide) ?_
  refine lv_icmp_gt (tgt := 36) hx hb dX5_ordered_6 (by decide) (fun c_1 => ?_) (fun c_1 => ?_)
  · exact absurd c_1 (by decide)
  refine lv_iload_n hx hb dX5_ordered_9 rfl (lv_at hl 1 rfl) ?_
  refine lv_iload_n hx hb dX5_ordered_10 rfl (lv_at hl 0 rfl) ?_
  refine cS_i F N (c_X5_coordinate l G _ t 0) miX5_coordinate k_319 (by decide) hl.1 rfl (Nat.le_of_ble_eq_true rfl) dX5_ordered_11 (fun H locs N => ?_)
  refine lv_iload_n hx hb dX5_ordered_14 rfl (lv_at hl 1 rfl) ?_
  refine lv_iload_n hx hb dX5_ordered_15 rfl (lv_at hl 0 rfl) ?_
  refine lv_iconst (v := 2) hx hb dX5_ordered_16 (by decide) ?_
  refine lv_iadd hx hb dX5_ordered_17 ?_
  refine toI (y := 2) (by decide) ?_
  refine cS_i F N (c_X5_coordinate l G _ t 2) miX5_coordinate k_319 (by decide) hl.1 rfl (Nat.le_of_ble_eq_true rfl) dX5_ordered_18 (fun H locs N => ?_)
  refine lv_icmp_le (tgt := 30) hx hb dX5_ordered_21 (by decide) (fun c_2 => ?_) (fun c_2 => ?_)
  · have c_2v := le_nlt c_2
    refine lv_iinc (v := 1) (lv' := [(2, .int 1), (1, .int t), (0, .int t)]) hx hb dX5_ordered_30 hl (k := 0) rfl (by decide) (by decide) rfl (fun ls hl => ?_)
    refine lv_goto (tgt := 4) hx hb dX5_ordered_33 (by decide) ?_
    refine lv_iload_n hx hb dX5_ordered_4 rfl (lv_at hl 0 rfl) ?_
    refine lv_iconst (v := 1) hx hb dX5_ordered_5 (by decide) ?_
    refine lv_icmp_gt (tgt := 36) hx hb dX5_ordered_6 (by decide) (fun c_3 => ?_) (fun c_3 => ?_)
    · exact absurd c_3 (by decide)
    refine lv_iload_n hx hb dX5_ordered_9 rfl (lv_at hl 1 rfl) ?_
    refine lv_iload_n hx hb dX5_ordered_10 rfl (lv_at hl 0 rfl) ?_
    refine cS_i F N (c_X5_coordinate l G _ t 1) miX5_coordinate k_319 (by decide) hl.1 rfl (Nat.le_of_ble_eq_true rfl) dX5_ordered_11 (fun H locs N => ?_)
    refine lv_iload_n hx hb dX5_ordered_14 rfl (lv_at hl 1 rfl) ?_
    refine lv_iload_n hx hb dX5_ordered_15 rfl (lv_at hl 0 rfl) ?_
    refine lv_iconst (v := 2) hx hb dX5_ordered_16 (by decide) ?_
    refine lv_iadd hx hb dX5_ordered_17 ?_
    refine toI (y := 3) (by decide) ?_
    refine cS_i F N (c_X5_coordinate l G _ t 3) miX5_coordinate k_319 (by decide) hl.1 rfl (Nat.le_of_ble_eq_true rfl) dX5_ordered_18 (fun H locs N => ?_)
    refine lv_icmp_le (tgt := 30) hx hb dX5_ordered_21 (by decide) (fun c_4 => ?_) (fun c_4 => ?_)
    · have c_4v := le_nlt c_4
      refine lv_iinc (v := 2) (lv' := [(2, .int 2), (1, .int t), (0, .int t)]) hx hb dX5_ordered_30 hl (k := 0) rfl (by decide) (by decide) rfl (fun ls hl => ?_)
      refine lv_goto (tgt := 4) hx hb dX5_ordered_33 (by decide) ?_
      refine lv_iload_n hx hb dX5_ordered_4 rfl (lv_at hl 0 rfl) ?_
      refine lv_iconst (v := 1) hx hb dX5_ordered_5 (by decide) ?_
      refine lv_icmp_gt (tgt := 36) hx hb dX5_ordered_6 (by decide) (fun c_5 => ?_) (fun c_5 => ?_)
      rotate_left
      · exact absurd (by decide) c_5
      refine lv_iload_n hx hb dX5_ordered_36 rfl (lv_at hl 1 rfl) ?_
      exact hret _ _ _ _ _ _ dX5_ordered_37 (by first | rfl | (simp [bI, tOrd, tOrd1, c_2, c_2v, c_4, c_4v])) (by first | rfl | (simp [bI, tOrd, tOrd1, c_2, c_2v, c_4, c_4v])) N
    · have c_4v := nle_lt c_4
      refine lv_iload_n hx hb dX5_ordered_24 rfl (lv_at hl 1 rfl) ?_
      refine lv_iload_n hx hb dX5_ordered_25 rfl (lv_at hl 0 rfl) ?_
      refine cS_i F N (c_X5_crossed l G _ t 1) miX5_crossed k_325 (by decide) hl.1 rfl (Nat.le_of_ble_eq_true rfl) dX5_ordered_26 (fun H locs N => ?_)
      refine lv_istore_n (lv' := [(1, .int (tCross t (1 : Int32))), (2, .int 1), (0, .int t)]) hx hb dX5_ordered_29 rfl hl (by decide) rfl (fun ls hl => ?_)
      refine lv_iinc (v := 2) (lv' := [(2, .int 2), (1, .int (tCross t (1 : Int32))), (0, .int t)]) hx hb dX5_ordered_30 hl (k := 1) rfl (by decide) (by decide) rfl (fun ls hl => ?_)
      refine lv_goto (tgt := 4) hx hb dX5_ordered_33 (by decide) ?_
      refine lv_iload_n hx hb dX5_ordered_4 rfl (lv_at hl 0 rfl) ?_
      refine lv_iconst (v := 1) hx hb dX5_ordered_5 (by decide) ?_
      refine lv_icmp_gt (tgt := 36) hx hb dX5_ordered_6 (by decide) (fun c_6 => ?_) (fun c_6 => ?_)
      rotate_left
      · exact absurd (by decide) c_6
      refine lv_iload_n hx hb dX5_ordered_36 rfl (lv_at hl 1 rfl) ?_
      exact hret _ _ _ _ _ _ dX5_ordered_37 (by first | rfl | (simp [bI, tOrd, tOrd1, c_2, c_2v, c_4, c_4v])) (by first | rfl | (simp [bI, tOrd, tOrd1, c_2, c_2v, c_4, c_4v])) N
  · have c_2v := nle_lt c_2
    refine lv_iload_n hx hb dX5_ordered_24 rfl (lv_at hl 1 rfl) ?_
    refine lv_iload_n hx hb dX5_ordered_25 rfl (lv_at hl 0 rfl) ?_
    refine cS_i F N (c_X5_crossed l G _ t 0) miX5_crossed k_325 (by decide) hl.1 rfl (Nat.le_of_ble_eq_true rfl) dX5_ordered_26 (fun H locs N => ?_)
    refine lv_istore_n (lv' := [(1, .int (tCross t (0 : Int32))), (2, .int 0), (0, .int t)]) hx hb dX5_ordered_29 rfl hl (by decide) rfl (fun ls hl => ?_)
    refine lv_iinc (v := 1) (lv' := [(2, .int 1), (1, .int (tCross t (0 : Int32))), (0, .int t)]) hx hb dX5_ordered_30 hl (k := 1) rfl (by decide) (by decide) rfl (fun ls hl => ?_)
    refine lv_goto (tgt := 4) hx hb dX5_ordered_33 (by decide) ?_
    refine lv_iload_n hx hb dX5_ordered_4 rfl (lv_at hl 0 rfl) ?_
    refine lv_iconst (v := 1) hx hb dX5_ordered_5 (by decide) ?_
    refine lv_icmp_gt (tgt := 36) hx hb dX5_ordered_6 (by decide) (fun c_7 => ?_) (fun c_7 => ?_)
    · exact absurd c_7 (by decide)
    refine lv_iload_n hx hb dX5_ordered_9 rfl (lv_at hl 1 rfl) ?_
    refine lv_iload_n hx hb dX5_ordered_10 rfl (lv_at hl 0 rfl) ?_
    refine cS_i F N (c_X5_coordinate l G _ (tCross t (0 : Int32)) 1) miX5_coordinate k_319 (by decide) hl.1 rfl (Nat.le_of_ble_eq_true rfl) dX5_ordered_11 (fun H locs N => ?_)
    refine lv_iload_n hx hb dX5_ordered_14 rfl (lv_at hl 1 rfl) ?_
    refine lv_iload_n hx hb dX5_ordered_15 rfl (lv_at hl 0 rfl) ?_
    refine lv_iconst (v := 2) hx hb dX5_ordered_16 (by decide) ?_
    refine lv_iadd hx hb dX5_ordered_17 ?_
    refine toI (y := 3) (by decide) ?_
    refine cS_i F N (c_X5_coordinate l G _ (tCross t (0 : Int32)) 3) miX5_coordinate k_319 (by decide) hl.1 rfl (Nat.le_of_ble_eq_true rfl) dX5_ordered_18 (fun H locs N => ?_)
    refine lv_icmp_le (tgt := 30) hx hb dX5_ordered_21 (by decide) (fun c_8 => ?_) (fun c_8 => ?_)
    · have c_8v := le_nlt c_8
      refine lv_iinc (v := 2) (lv' := [(2, .int 2), (1, .int (tCross t (0 : Int32))), (0, .int t)]) hx hb dX5_ordered_30 hl (k := 0) rfl (by decide) (by decide) rfl (fun ls hl => ?_)
      refine lv_goto (tgt := 4) hx hb dX5_ordered_33 (by decide) ?_
      refine lv_iload_n hx hb dX5_ordered_4 rfl (lv_at hl 0 rfl) ?_
      refine lv_iconst (v := 1) hx hb dX5_ordered_5 (by decide) ?_
      refine lv_icmp_gt (tgt := 36) hx hb dX5_ordered_6 (by decide) (fun c_9 => ?_) (fun c_9 => ?_)
      rotate_left
      · exact absurd (by decide) c_9
      refine lv_iload_n hx hb dX5_ordered_36 rfl (lv_at hl 1 rfl) ?_
      exact hret _ _ _ _ _ _ dX5_ordered_37 (by first | rfl | (simp [bI, tOrd, tOrd1, c_2, c_2v, c_8, c_8v])) (by first | rfl | (simp [bI, tOrd, tOrd1, c_2, c_2v, c_8, c_8v])) N
    · have c_8v := nle_lt c_8
      refine lv_iload_n hx hb dX5_ordered_24 rfl (lv_at hl 1 rfl) ?_
      refine lv_iload_n hx hb dX5_ordered_25 rfl (lv_at hl 0 rfl) ?_
      refine cS_i F N (c_X5_crossed l G _ (tCross t (0 : Int32)) 1) miX5_crossed k_325 (by decide) hl.1 rfl (Nat.le_of_ble_eq_true rfl) dX5_ordered_26 (fun H locs N => ?_)
      refine lv_istore_n (lv' := [(1, .int (tCross (tCross t (0 : Int32)) (1 : Int32))), (2, .int 1), (0, .int t)]) hx hb dX5_ordered_29 rfl hl (by decide) rfl (fun ls hl => ?_)
      refine lv_iinc (v := 2) (lv' := [(2, .int 2), (1, .int (tCross (tCross t (0 : Int32)) (1 : Int32))), (0, .int t)]) hx hb dX5_ordered_30 hl (k := 1) rfl (by decide) (by decide) rfl (fun ls hl => ?_)
      refine lv_goto (tgt := 4) hx hb dX5_ordered_33 (by decide) ?_
      refine lv_iload_n hx hb dX5_ordered_4 rfl (lv_at hl 0 rfl) ?_
      refine lv_iconst (v := 1) hx hb dX5_ordered_5 (by decide) ?_
      refine lv_icmp_gt (tgt := 36) hx hb dX5_ordered_6 (by decide) (fun c_10 => ?_) (fun c_10 => ?_)
      rotate_left
      · exact absurd (by decide) c_10
      refine lv_iload_n hx hb dX5_ordered_36 rfl (lv_at hl 1 rfl) ?_
      exact hret _ _ _ _ _ _ dX5_ordered_37 (by first | rfl | (simp [bI, tOrd, tOrd1, c_2, c_2v, c_8, c_8v])) (by first | rfl | (simp [bI, tOrd, tOrd1, c_2, c_2v, c_8, c_8v])) N
set_option maxHeartbeats 4000000 in
set_option maxRecDepth 100000 in
theorem c_X5_ofBlock (l : Launch) (G : GM) (w : va_W) (x : Int32) (y : Int32) : XCi l G yX5_ofBlock cX5_ofBlock 5 (some .int) 3 [.int x, .int y] (w) (tOfBl x y) (w) := by
  refine xi_start (by decide) rfl (Nat.le_of_ble_eq_true rfl) ?_
  intro zp ze zs zm zargs zbelow zmeth zc zQ ls F N hl hret
  have hx := F.1
  have hb := F.2.1
  have hl : lv_has ls 5 [(0, .int x), (1, .int y)] := hl
  refine lv_iload_n hx hb dX5_ofBlock_0 rfl (lv_at hl 0 rfl) ?_
  refine cS_i F N (c_X5_fixed l G _ x) miX5_fixed k_316 (by decide) hl.1 rfl (Nat.le_of_ble_eq_true rfl) dX5_ofBlock_1 (fun H locs N => ?_)
  refine lv_iload_n hx hb dX5_ofBlock_4 rfl (lv_at hl 1 rfl) ?_
  refine cS_i F N (c_X5_fixed l G _ y) miX5_fixed k_316 (by decide) hl.1 rfl (Nat.le_of_ble_eq_true rfl) dX5_ofBlock_5 (fun H locs N => ?_)
  refine lv_iconst (v := 2) hx hb dX5_ofBlock_8 (by decide) ?_
  refine lv_ishl hx hb dX5_ofBlock_9 ?_
  refine lv_ior hx hb dX5_ofBlock_10 ?_
  refine lv_istore_n (lv' := [(2, .int ((tFix x) ||| ((tFix y) <<< ((2 : Int32) &&& 31)))), (0, .int x), (1, .int y)]) hx hb dX5_ofBlock_11 rfl hl (by decide) rfl (fun ls hl => ?_)
  refine lv_iconst (v := 3) hx hb dX5_ofBlock_12 (by decide) ?_
  refine lv_iload_n hx hb dX5_ofBlock_13 rfl (lv_at hl 0 rfl) ?_
  refine lv_iconst (v := 3) hx hb dX5_ofBlock_14 (by decide) ?_
  refine lv_ishl hx hb dX5_ofBlock_15 ?_
  refine lv_ior hx hb dX5_ofBlock_16 ?_
  refine lv_istore_n (lv' := [(3, .int ((3 : Int32) ||| (((tFix x) ||| ((tFix y) <<< ((2 : Int32) &&& 31))) <<< ((3 : Int32) &&& 31)))), (2, .int ((tFix x) ||| ((tFix y) <<< ((2 : Int32) &&& 31)))), (0, .int x), (1, .int y)]) hx hb dX5_ofBlock_17 rfl hl (by decide) rfl (fun ls hl => ?_)
  refine lv_iconst (v := 0) hx hb dX5_ofBlock_18 (by decide) ?_
  refine lv_istore (lv' := [(4, .int 0), (3, .int ((3 : Int32) ||| (((tFix x) ||| ((tFix y) <<< ((2 : Int32) &&& 31))) <<< ((3 : Int32) &&& 31)))), (2, .int ((tFix x) ||| ((tFix y) <<< ((2 : Int32) &&& 31)))), (0, .int x), (1, .int y)]) hx hb dX5_ofBlock_19 hl (by decide) rfl (fun ls hl => ?_)
  refine lv_iload hx hb dX5_ofBlock_21 (lv_at hl 0 rfl) ?_
  refine lv_iconst (v := 1) hx hb dX5_ofBlock_23 (by decide) ?_
  refine lv_icmp_gt (tgt := 61) hx hb dX5_ofBlock_24 (by decide) (fun c_1 => ?_) (fun c_1 => ?_)
  · exact absurd c_1 (by decide)
  refine lv_iload_n hx hb dX5_ofBlock_27 rfl (lv_at hl 1 rfl) ?_
  refine lv_iload hx hb dX5_ofBlock_28 (lv_at hl 0 rfl) ?_
  refine lv_iload_n hx hb dX5_ofBlock_30 rfl (lv_at hl 3 rfl) ?_
  refine lv_iload hx hb dX5_ofBlock_31 (lv_at hl 0 rfl) ?_
  refine cS_i F N (c_X5_coordinate l G _ x 0) miX5_coordinate k_319 (by decide) hl.1 rfl (Nat.le_of_ble_eq_true rfl) dX5_ofBlock_33 (fun H locs N => ?_)
  refine cS_i F N (c_X5_with l G _ ((3 : Int32) ||| (((tFix x) ||| ((tFix y) <<< ((2 : Int32) &&& 31))) <<< ((3 : Int32) &&& 31))) 0 (tCo x (0 : Int32))) miX5_with k_310 (by decide) hl.1 rfl (Nat.le_of_ble_eq_true rfl) dX5_ofBlock_36 (fun H locs N => ?_)
  refine lv_istore_n (lv' := [(3, .int (tWith ((3 : Int32) ||| (((tFix x) ||| ((tFix y) <<< ((2 : Int32) &&& 31))) <<< ((3 : Int32) &&& 31))) (0 : Int32) (tCo x (0 : Int32)))), (4, .int 0), (2, .int ((tFix x) ||| ((tFix y) <<< ((2 : Int32) &&& 31)))), (0, .int x), (1, .int y)]) hx hb dX5_ofBlock_39 rfl hl (by decide) rfl (fun ls hl => ?_)
  refine lv_iload_n hx hb dX5_ofBlock_40 rfl (lv_at hl 0 rfl) ?_
  refine lv_iload hx hb dX5_ofBlock_41 (lv_at hl 1 rfl) ?_
  refine lv_iconst (v := 2) hx hb dX5_ofBlock_43 (by decide) ?_
  refine lv_iadd hx hb dX5_ofBlock_44 ?_
  refine toI (y := 2) (by decide) ?_
  refine lv_iload_n hx hb dX5_ofBlock_45 rfl (lv_at hl 4 rfl) ?_
  refine lv_iload hx hb dX5_ofBlock_46 (lv_at hl 1 rfl) ?_
  refine cS_i F N (c_X5_coordinate l G _ y 0) miX5_coordinate k_319 (by decide) hl.1 rfl (Nat.le_of_ble_eq_true rfl) dX5_ofBlock_48 (fun H locs N => ?_)
  refine cS_i F N (c_X5_with l G _ (tWith ((3 : Int32) ||| (((tFix x) ||| ((tFix y) <<< ((2 : Int32) &&& 31))) <<< ((3 : Int32) &&& 31))) (0 : Int32) (tCo x (0 : Int32))) 2 (tCo y (0 : Int32))) miX5_with k_310 (by decide) hl.1 rfl (Nat.le_of_ble_eq_true rfl) dX5_ofBlock_51 (fun H locs N => ?_)
  refine lv_istore_n (lv' := [(3, .int (tWith (tWith ((3 : Int32) ||| (((tFix x) ||| ((tFix y) <<< ((2 : Int32) &&& 31))) <<< ((3 : Int32) &&& 31))) (0 : Int32) (tCo x (0 : Int32))) (2 : Int32) (tCo y (0 : Int32)))), (4, .int 0), (2, .int ((tFix x) ||| ((tFix y) <<< ((2 : Int32) &&& 31)))), (0, .int x), (1, .int y)]) hx hb dX5_ofBlock_54 rfl hl (by decide) rfl (fun ls hl => ?_)
  refine lv_iinc (v := 1) (lv' := [(4, .int 1), (3, .int (tWith (tWith ((3 : Int32) ||| (((tFix x) ||| ((tFix y) <<< ((2 : Int32) &&& 31))) <<< ((3 : Int32) &&& 31))) (0 : Int32) (tCo x (0 : Int32))) (2 : Int32) (tCo y (0 : Int32)))), (2, .int ((tFix x) ||| ((tFix y) <<< ((2 : Int32) &&& 31)))), (0, .int x), (1, .int y)]) hx hb dX5_ofBlock_55 hl (k := 1) rfl (by decide) (by decide) rfl (fun ls hl => ?_)
  refine lv_goto (tgt := 21) hx hb dX5_ofBlock_58 (by decide) ?_
  refine lv_iload hx hb dX5_ofBlock_21 (lv_at hl 0 rfl) ?_
  refine lv_iconst (v := 1) hx hb dX5_ofBlock_23 (by decide) ?_
  refine lv_icmp_gt (tgt := 61) hx hb dX5_ofBlock_24 (by decide) (fun c_2 => ?_) (fun c_2 => ?_)
  · exact absurd c_2 (by decide)
  refine lv_iload_n hx hb dX5_ofBlock_27 rfl (lv_at hl 1 rfl) ?_
  refine lv_iload hx hb dX5_ofBlock_28 (lv_at hl 0 rfl) ?_
  refine lv_iload_n hx hb dX5_ofBlock_30 rfl (lv_at hl 3 rfl) ?_
  refine lv_iload hx hb dX5_ofBlock_31 (lv_at hl 0 rfl) ?_
  refine cS_i F N (c_X5_coordinate l G _ x 1) miX5_coordinate k_319 (by decide) hl.1 rfl (Nat.le_of_ble_eq_true rfl) dX5_ofBlock_33 (fun H locs N => ?_)
  refine cS_i F N (c_X5_with l G _ (tWith (tWith ((3 : Int32) ||| (((tFix x) ||| ((tFix y) <<< ((2 : Int32) &&& 31))) <<< ((3 : Int32) &&& 31))) (0 : Int32) (tCo x (0 : Int32))) (2 : Int32) (tCo y (0 : Int32))) 1 (tCo x (1 : Int32))) miX5_with k_310 (by decide) hl.1 rfl (Nat.le_of_ble_eq_true rfl) dX5_ofBlock_36 (fun H locs N => ?_)
  refine lv_istore_n (lv' := [(3, .int (tWith (tWith (tWith ((3 : Int32) ||| (((tFix x) ||| ((tFix y) <<< ((2 : Int32) &&& 31))) <<< ((3 : Int32) &&& 31))) (0 : Int32) (tCo x (0 : Int32))) (2 : Int32) (tCo y (0 : Int32))) (1 : Int32) (tCo x (1 : Int32)))), (4, .int 1), (2, .int ((tFix x) ||| ((tFix y) <<< ((2 : Int32) &&& 31)))), (0, .int x), (1, .int y)]) hx hb dX5_ofBlock_39 rfl hl (by decide) rfl (fun ls hl => ?_)
  refine lv_iload_n hx hb dX5_ofBlock_40 rfl (lv_at hl 0 rfl) ?_
  refine lv_iload hx hb dX5_ofBlock_41 (lv_at hl 1 rfl) ?_
  refine lv_iconst (v := 2) hx hb dX5_ofBlock_43 (by decide) ?_
  refine lv_iadd hx hb dX5_ofBlock_44 ?_
  refine toI (y := 3) (by decide) ?_
  refine lv_iload_n hx hb dX5_ofBlock_45 rfl (lv_at hl 4 rfl) ?_
  refine lv_iload hx hb dX5_ofBlock_46 (lv_at hl 1 rfl) ?_
  refine cS_i F N (c_X5_coordinate l G _ y 1) miX5_coordinate k_319 (by decide) hl.1 rfl (Nat.le_of_ble_eq_true rfl) dX5_ofBlock_48 (fun H locs N => ?_)
  refine cS_i F N (c_X5_with l G _ (tWith (tWith (tWith ((3 : Int32) ||| (((tFix x) ||| ((tFix y) <<< ((2 : Int32) &&& 31))) <<< ((3 : Int32) &&& 31))) (0 : Int32) (tCo x (0 : Int32))) (2 : Int32) (tCo y (0 : Int32))) (1 : Int32) (tCo x (1 : Int32))) 3 (tCo y (1 : Int32))) miX5_with k_310 (by decide) hl.1 rfl (Nat.le_of_ble_eq_true rfl) dX5_ofBlock_51 (fun H locs N => ?_)
  refine lv_istore_n (lv' := [(3, .int (tWith (tWith (tWith (tWith ((3 : Int32) ||| (((tFix x) ||| ((tFix y) <<< ((2 : Int32) &&& 31))) <<< ((3 : Int32) &&& 31))) (0 : Int32) (tCo x (0 : Int32))) (2 : Int32) (tCo y (0 : Int32))) (1 : Int32) (tCo x (1 : Int32))) (3 : Int32) (tCo y (1 : Int32)))), (4, .int 1), (2, .int ((tFix x) ||| ((tFix y) <<< ((2 : Int32) &&& 31)))), (0, .int x), (1, .int y)]) hx hb dX5_ofBlock_54 rfl hl (by decide) rfl (fun ls hl => ?_)
  refine lv_iinc (v := 2) (lv' := [(4, .int 2), (3, .int (tWith (tWith (tWith (tWith ((3 : Int32) ||| (((tFix x) ||| ((tFix y) <<< ((2 : Int32) &&& 31))) <<< ((3 : Int32) &&& 31))) (0 : Int32) (tCo x (0 : Int32))) (2 : Int32) (tCo y (0 : Int32))) (1 : Int32) (tCo x (1 : Int32))) (3 : Int32) (tCo y (1 : Int32)))), (2, .int ((tFix x) ||| ((tFix y) <<< ((2 : Int32) &&& 31)))), (0, .int x), (1, .int y)]) hx hb dX5_ofBlock_55 hl (k := 1) rfl (by decide) (by decide) rfl (fun ls hl => ?_)
  refine lv_goto (tgt := 21) hx hb dX5_ofBlock_58 (by decide) ?_
  refine lv_iload hx hb dX5_ofBlock_21 (lv_at hl 0 rfl) ?_
  refine lv_iconst (v := 1) hx hb dX5_ofBlock_23 (by decide) ?_
  refine lv_icmp_gt (tgt := 61) hx hb dX5_ofBlock_24 (by decide) (fun c_3 => ?_) (fun c_3 => ?_)
  rotate_left
  · exact absurd (by decide) c_3
  refine lv_iload_n hx hb dX5_ofBlock_61 rfl (lv_at hl 1 rfl) ?_
  refine cS_i F N (c_X5_ordered l G _ (tWith (tWith (tWith (tWith ((3 : Int32) ||| (((tFix x) ||| ((tFix y) <<< ((2 : Int32) &&& 31))) <<< ((3 : Int32) &&& 31))) (0 : Int32) (tCo x (0 : Int32))) (2 : Int32) (tCo y (0 : Int32))) (1 : Int32) (tCo x (1 : Int32))) (3 : Int32) (tCo y (1 : Int32)))) miX5_ordered k_322 (by decide) hl.1 rfl (Nat.le_of_ble_eq_true rfl) dX5_ofBlock_62 (fun H locs N => ?_)
  exact hret _ _ _ _ _ _ dX5_ofBlock_65 (by first | rfl | (simp [bI])) (by first | rfl | (simp [bI])) N
set_option maxHeartbeats 4000000 in
set_option maxRecDepth 100000 in
theorem c_X5_whenLinesCome (l : Launch) (G : GM) (w : va_W) (t : Int32) (ax : Int32) (a : Int32) (n : Int32) : XCi l G yX5_whenLinesCome cX5_whenLinesCome 7 (some .int) 2 [.int t, .int ax, .int a, .int n] (w) (tCome t ax a n) (w) := by
  refine xi_start (by decide) rfl (Nat.le_of_ble_eq_true rfl) ?_
  intro zp ze zs zm zargs zbelow zmeth zc zQ ls F N hl hret
  have hx := F.1
  have hb := F.2.1
  have hl : lv_has ls 7 [(0, .int t), (1, .int ax), (2, .int a), (3, .int n)] := hl
  refine lv_iload_n hx hb dX5_whenLinesCome_0 rfl (lv_at hl 0 rfl) ?_
  refine cS_i F N (c_X5_refers l G _ t) miX5_refers k_425 (by decide) hl.1 rfl (Nat.le_of_ble_eq_true rfl) dX5_whenLinesCome_1 (fun H locs N => ?_)
  refine ifB_eq (tgt := 16) hx hb dX5_whenLinesCome_4 (by decide) (fun c_1 => ?_) (fun c_1 => ?_)
  · refine lv_iload_n hx hb dX5_whenLinesCome_16 rfl (lv_at hl 0 rfl) ?_
    exact hret _ _ _ _ _ _ dX5_whenLinesCome_17 (by first | rfl | (simp [bI, tCome, c_1])) (by first | rfl | (simp [bI, tCome, c_1])) N
  · refine lv_iload_n hx hb dX5_whenLinesCome_7 rfl (lv_at hl 0 rfl) ?_
    refine lv_iload_n hx hb dX5_whenLinesCome_8 rfl (lv_at hl 1 rfl) ?_
    refine cS_i F N (c_X5_greatest l G _ t ax) miX5_greatest k_431 (by decide) hl.1 rfl (Nat.le_of_ble_eq_true rfl) dX5_whenLinesCome_9 (fun H locs N => ?_)
    refine lv_iload_n hx hb dX5_whenLinesCome_12 rfl (lv_at hl 2 rfl) ?_
    refine lv_icmp_ge (tgt := 18) hx hb dX5_whenLinesCome_13 (by decide) (fun c_2 => ?_) (fun c_2 => ?_)
    · have c_2v := le_nlt c_2
      refine lv_iload_n hx hb dX5_whenLinesCome_18 rfl (lv_at hl 0 rfl) ?_
      refine lv_iload_n hx hb dX5_whenLinesCome_19 rfl (lv_at hl 1 rfl) ?_
      refine cS_i F N (c_X5_least l G _ t ax) miX5_least k_434 (by decide) hl.1 rfl (Nat.le_of_ble_eq_true rfl) dX5_whenLinesCome_20 (fun H locs N => ?_)
      refine lv_istore (lv' := [(4, .int (tLeast t ax)), (0, .int t), (1, .int ax), (2, .int a), (3, .int n)]) hx hb dX5_whenLinesCome_23 hl (by decide) rfl (fun ls hl => ?_)
      refine lv_iload hx hb dX5_whenLinesCome_25 (lv_at hl 0 rfl) ?_
      refine lv_iload_n hx hb dX5_whenLinesCome_27 rfl (lv_at hl 3 rfl) ?_
      refine lv_icmp_ge (tgt := 36) hx hb dX5_whenLinesCome_28 (by decide) (fun c_3 => ?_) (fun c_3 => ?_)
      · have c_3v := le_nlt c_3
        refine lv_iload hx hb dX5_whenLinesCome_36 (lv_at hl 0 rfl) ?_
        refine lv_iload_n hx hb dX5_whenLinesCome_38 rfl (lv_at hl 4 rfl) ?_
        refine lv_iadd hx hb dX5_whenLinesCome_39 ?_
        refine lv_istore (lv' := [(5, .int ((tLeast t ax) + n)), (4, .int (tLeast t ax)), (0, .int t), (1, .int ax), (2, .int a), (3, .int n)]) hx hb dX5_whenLinesCome_40 hl (by decide) rfl (fun ls hl => ?_)
        refine lv_iload hx hb dX5_whenLinesCome_42 (lv_at hl 0 rfl) ?_
        refine lv_bipush (v := 6) hx hb dX5_whenLinesCome_44 (by decide) ?_
        refine lv_icmp_lt (tgt := 51) hx hb dX5_whenLinesCome_46 (by decide) (fun c_4 => ?_) (fun c_4 => ?_)
        · have c_4v := lt_nle c_4
          refine lv_iload_n hx hb dX5_whenLinesCome_51 rfl (lv_at hl 2 rfl) ?_
          refine lv_iload_n hx hb dX5_whenLinesCome_52 rfl (lv_at hl 3 rfl) ?_
          refine lv_iload hx hb dX5_whenLinesCome_53 (lv_at hl 0 rfl) ?_
          refine cS_i F N (c_X5_with l G _ t ax ((tLeast t ax) + n)) miX5_with k_310 (by decide) hl.1 rfl (Nat.le_of_ble_eq_true rfl) dX5_whenLinesCome_55 (fun H locs N => ?_)
          refine lv_istore (lv' := [(6, .int (tWith t ax ((tLeast t ax) + n))), (5, .int ((tLeast t ax) + n)), (4, .int (tLeast t ax)), (0, .int t), (1, .int ax), (2, .int a), (3, .int n)]) hx hb dX5_whenLinesCome_58 hl (by decide) rfl (fun ls hl => ?_)
          refine lv_iload_n hx hb dX5_whenLinesCome_60 rfl (lv_at hl 3 rfl) ?_
          refine cS_i F N (c_X5_kind l G _ t) miX5_kind k_428 (by decide) hl.1 rfl (Nat.le_of_ble_eq_true rfl) dX5_whenLinesCome_61 (fun H locs N => ?_)
          refine lv_iconst (v := 2) hx hb dX5_whenLinesCome_64 (by decide) ?_
          refine lv_icmp_ne (tgt := 71) hx hb dX5_whenLinesCome_65 (by decide) (fun c_5 => ?_) (fun c_5 => ?_)
          · refine lv_iload hx hb dX5_whenLinesCome_71 (lv_at hl 0 rfl) ?_
            refine lv_iload_n hx hb dX5_whenLinesCome_73 rfl (lv_at hl 4 rfl) ?_
            refine lv_iconst (v := 2) hx hb dX5_whenLinesCome_74 (by decide) ?_
            refine lv_iadd hx hb dX5_whenLinesCome_75 ?_
            refine lv_iload_n hx hb dX5_whenLinesCome_76 rfl (lv_at hl 3 rfl) ?_
            refine lv_iload_n hx hb dX5_whenLinesCome_77 rfl (lv_at hl 4 rfl) ?_
            refine cS_i F N (c_X5_greatest l G _ t ax) miX5_greatest k_431 (by decide) hl.1 rfl (Nat.le_of_ble_eq_true rfl) dX5_whenLinesCome_78 (fun H locs N => ?_)
            refine lv_iload_n hx hb dX5_whenLinesCome_81 rfl (lv_at hl 6 rfl) ?_
            refine lv_iadd hx hb dX5_whenLinesCome_82 ?_
            refine lv_iconst (v := 5) hx hb dX5_whenLinesCome_83 (by decide) ?_
            refine va_mmin hx hb (F.2.2.1.trans hl.1.symm) F.2.2.2.1 (F.2.2.2.2.1 _ k_437) (F.2.2.2.2.1 _ k_344) (F.2.2.2.2.1 _ k_73) (F.2.2.2.2.1 _ k_345) (Nat.le_of_ble_eq_true rfl) (Nat.le_of_ble_eq_true rfl) (Nat.le_of_ble_eq_true rfl) (Nat.le_of_ble_eq_true rfl) dX5_whenLinesCome_84 ?_
            refine cS_i F N (c_X5_with l G _ (tWith t ax ((tLeast t ax) + n)) (ax + (2 : Int32)) (if (5 : Int32) < ((tGreat t ax) + n) then (5 : Int32) else ((tGreat t ax) + n))) miX5_with k_310 (by decide) hl.1 rfl (Nat.le_of_ble_eq_true rfl) dX5_whenLinesCome_87 (fun H locs N => ?_)
            exact hret _ _ _ _ _ _ dX5_whenLinesCome_90 (by first | rfl | (simp [bI, tCome, c_1, c_2, c_2v, c_3, c_3v, c_4, c_4v, c_5])) (by first | rfl | (simp [bI, tCome, c_1, c_2, c_2v, c_3, c_3v, c_4, c_4v, c_5])) N
          · refine lv_iload hx hb dX5_whenLinesCome_68 (lv_at hl 0 rfl) ?_
            exact hret _ _ _ _ _ _ dX5_whenLinesCome_70 (by first | rfl | (simp [bI, tCome, c_1, c_2, c_2v, c_3, c_3v, c_4, c_4v, c_5])) (by first | rfl | (simp [bI, tCome, c_1, c_2, c_2v, c_3, c_3v, c_4, c_4v, c_5])) N
        · have c_4v := nlt_le c_4
          refine lv_iconst (v := 4) hx hb dX5_whenLinesCome_49 (by decide) ?_
          exact hret _ _ _ _ _ _ dX5_whenLinesCome_50 (by first | rfl | (simp [bI, tCome, c_1, c_2, c_2v, c_3, c_3v, c_4, c_4v])) (by first | rfl | (simp [bI, tCome, c_1, c_2, c_2v, c_3, c_3v, c_4, c_4v])) N
      · have c_3v := nle_lt c_3
        refine lv_iload hx hb dX5_whenLinesCome_31 (lv_at hl 0 rfl) ?_
        refine lv_goto (tgt := 40) hx hb dX5_whenLinesCome_33 (by decide) ?_
        refine lv_istore (lv' := [(5, .int (tLeast t ax)), (4, .int (tLeast t ax)), (0, .int t), (1, .int ax), (2, .int a), (3, .int n)]) hx hb dX5_whenLinesCome_40 hl (by decide) rfl (fun ls hl => ?_)
        refine lv_iload hx hb dX5_whenLinesCome_42 (lv_at hl 0 rfl) ?_
        refine lv_bipush (v := 6) hx hb dX5_whenLinesCome_44 (by decide) ?_
        refine lv_icmp_lt (tgt := 51) hx hb dX5_whenLinesCome_46 (by decide) (fun c_6 => ?_) (fun c_6 => ?_)
        · have c_6v := lt_nle c_6
          refine lv_iload_n hx hb dX5_whenLinesCome_51 rfl (lv_at hl 2 rfl) ?_
          refine lv_iload_n hx hb dX5_whenLinesCome_52 rfl (lv_at hl 3 rfl) ?_
          refine lv_iload hx hb dX5_whenLinesCome_53 (lv_at hl 0 rfl) ?_
          refine cS_i F N (c_X5_with l G _ t ax (tLeast t ax)) miX5_with k_310 (by decide) hl.1 rfl (Nat.le_of_ble_eq_true rfl) dX5_whenLinesCome_55 (fun H locs N => ?_)
          refine lv_istore (lv' := [(6, .int (tWith t ax (tLeast t ax))), (5, .int (tLeast t ax)), (4, .int (tLeast t ax)), (0, .int t), (1, .int ax), (2, .int a), (3, .int n)]) hx hb dX5_whenLinesCome_58 hl (by decide) rfl (fun ls hl => ?_)
          refine lv_iload_n hx hb dX5_whenLinesCome_60 rfl (lv_at hl 3 rfl) ?_
          refine cS_i F N (c_X5_kind l G _ t) miX5_kind k_428 (by decide) hl.1 rfl (Nat.le_of_ble_eq_true rfl) dX5_whenLinesCome_61 (fun H locs N => ?_)
          refine lv_iconst (v := 2) hx hb dX5_whenLinesCome_64 (by decide) ?_
          refine lv_icmp_ne (tgt := 71) hx hb dX5_whenLinesCome_65 (by decide) (fun c_7 => ?_) (fun c_7 => ?_)
          · refine lv_iload hx hb dX5_whenLinesCome_71 (lv_at hl 0 rfl) ?_
            refine lv_iload_n hx hb dX5_whenLinesCome_73 rfl (lv_at hl 4 rfl) ?_
            refine lv_iconst (v := 2) hx hb dX5_whenLinesCome_74 (by decide) ?_
            refine lv_iadd hx hb dX5_whenLinesCome_75 ?_
            refine lv_iload_n hx hb dX5_whenLinesCome_76 rfl (lv_at hl 3 rfl) ?_
            refine lv_iload_n hx hb dX5_whenLinesCome_77 rfl (lv_at hl 4 rfl) ?_
            refine cS_i F N (c_X5_greatest l G _ t ax) miX5_greatest k_431 (by decide) hl.1 rfl (Nat.le_of_ble_eq_true rfl) dX5_whenLinesCome_78 (fun H locs N => ?_)
            refine lv_iload_n hx hb dX5_whenLinesCome_81 rfl (lv_at hl 6 rfl) ?_
            refine lv_iadd hx hb dX5_whenLinesCome_82 ?_
            refine lv_iconst (v := 5) hx hb dX5_whenLinesCome_83 (by decide) ?_
            refine va_mmin hx hb (F.2.2.1.trans hl.1.symm) F.2.2.2.1 (F.2.2.2.2.1 _ k_437) (F.2.2.2.2.1 _ k_344) (F.2.2.2.2.1 _ k_73) (F.2.2.2.2.1 _ k_345) (Nat.le_of_ble_eq_true rfl) (Nat.le_of_ble_eq_true rfl) (Nat.le_of_ble_eq_true rfl) (Nat.le_of_ble_eq_true rfl) dX5_whenLinesCome_84 ?_
            refine cS_i F N (c_X5_with l G _ (tWith t ax (tLeast t ax)) (ax + (2 : Int32)) (if (5 : Int32) < ((tGreat t ax) + n) then (5 : Int32) else ((tGreat t ax) + n))) miX5_with k_310 (by decide) hl.1 rfl (Nat.le_of_ble_eq_true rfl) dX5_whenLinesCome_87 (fun H locs N => ?_)
            exact hret _ _ _ _ _ _ dX5_whenLinesCome_90 (by first | rfl | (simp [bI, tCome, c_1, c_2, c_2v, c_3, c_3v, c_6, c_6v, c_7])) (by first | rfl | (simp [bI, tCome, c_1, c_2, c_2v, c_3, c_3v, c_6, c_6v, c_7])) N
          · refine lv_iload hx hb dX5_whenLinesCome_68 (lv_at hl 0 rfl) ?_
            exact hret _ _ _ _ _ _ dX5_whenLinesCome_70 (by first | rfl | (simp [bI, tCome, c_1, c_2, c_2v, c_3, c_3v, c_6, c_6v, c_7])) (by first | rfl | (simp [bI, tCome, c_1, c_2, c_2v, c_3, c_3v, c_6, c_6v, c_7])) N
        · have c_6v := nlt_le c_6
          refine lv_iconst (v := 4) hx hb dX5_whenLinesCome_49 (by decide) ?_
          exact hret _ _ _ _ _ _ dX5_whenLinesCome_50 (by first | rfl | (simp [bI, tCome, c_1, c_2, c_2v, c_3, c_3v, c_6, c_6v])) (by first | rfl | (simp [bI, tCome, c_1, c_2, c_2v, c_3, c_3v, c_6, c_6v])) N
    · have c_2v := nle_lt c_2
      refine lv_iload_n hx hb dX5_whenLinesCome_16 rfl (lv_at hl 0 rfl) ?_
      exact hret _ _ _ _ _ _ dX5_whenLinesCome_17 (by first | rfl | (simp [bI, tCome, c_1, c_2, c_2v])) (by first | rfl | (simp [bI, tCome, c_1, c_2, c_2v])) N
set_option maxHeartbeats 4000000 in
set_option maxRecDepth 100000 in
theorem c_X5_whenLinesGo (l : Launch) (G : GM) (w : va_W) (t : Int32) (ax : Int32) (a : Int32) (n : Int32) : XCi l G yX5_whenLinesGo cX5_whenLinesGo 9 (some .int) 2 [.int t, .int ax, .int a, .int n] (w) (tGo t ax a n) (w) := by
  refine xi_start (by decide) rfl (Nat.le_of_ble_eq_true rfl) ?_
  intro zp ze zs zm zargs zbelow zmeth zc zQ ls F N hl hret
  have hx := F.1
  have hb := F.2.1
  have hl : lv_has ls 9 [(0, .int t), (1, .int ax), (2, .int a), (3, .int n)] := hl
  refine lv_iload_n hx hb dX5_whenLinesGo_0 rfl (lv_at hl 0 rfl) ?_
  refine cS_i F N (c_X5_refers l G _ t) miX5_refers k_425 (by decide) hl.1 rfl (Nat.le_of_ble_eq_true rfl) dX5_whenLinesGo_1 (fun H locs N => ?_)
  refine ifB_eq (tgt := 16) hx hb dX5_whenLinesGo_4 (by decide) (fun c_1 => ?_) (fun c_1 => ?_)
  · refine lv_iload_n hx hb dX5_whenLinesGo_16 rfl (lv_at hl 0 rfl) ?_
    exact hret _ _ _ _ _ _ dX5_whenLinesGo_17 (by first | rfl | (simp [bI, tGo, tGoL, tGoG, c_1])) (by first | rfl | (simp [bI, tGo, tGoL, tGoG, c_1])) N
  · refine lv_iload_n hx hb dX5_whenLinesGo_7 rfl (lv_at hl 0 rfl) ?_
    refine lv_iload_n hx hb dX5_whenLinesGo_8 rfl (lv_at hl 1 rfl) ?_
    refine cS_i F N (c_X5_greatest l G _ t ax) miX5_greatest k_431 (by decide) hl.1 rfl (Nat.le_of_ble_eq_true rfl) dX5_whenLinesGo_9 (fun H locs N => ?_)
    refine lv_iload_n hx hb dX5_whenLinesGo_12 rfl (lv_at hl 2 rfl) ?_
    refine lv_icmp_ge (tgt := 18) hx hb dX5_whenLinesGo_13 (by decide) (fun c_2 => ?_) (fun c_2 => ?_)
    · have c_2v := le_nlt c_2
      refine lv_iload_n hx hb dX5_whenLinesGo_18 rfl (lv_at hl 0 rfl) ?_
      refine lv_iload_n hx hb dX5_whenLinesGo_19 rfl (lv_at hl 1 rfl) ?_
      refine cS_i F N (c_X5_least l G _ t ax) miX5_least k_434 (by decide) hl.1 rfl (Nat.le_of_ble_eq_true rfl) dX5_whenLinesGo_20 (fun H locs N => ?_)
      refine lv_istore (lv' := [(4, .int (tLeast t ax)), (0, .int t), (1, .int ax), (2, .int a), (3, .int n)]) hx hb dX5_whenLinesGo_23 hl (by decide) rfl (fun ls hl => ?_)
      refine lv_iload_n hx hb dX5_whenLinesGo_25 rfl (lv_at hl 1 rfl) ?_
      refine lv_iload_n hx hb dX5_whenLinesGo_26 rfl (lv_at hl 2 rfl) ?_
      refine cS_i F N (c_X5_greatest l G _ t ax) miX5_greatest k_431 (by decide) hl.1 rfl (Nat.le_of_ble_eq_true rfl) dX5_whenLinesGo_27 (fun H locs N => ?_)
      refine lv_istore (lv' := [(5, .int (tGreat t ax)), (4, .int (tLeast t ax)), (0, .int t), (1, .int ax), (2, .int a), (3, .int n)]) hx hb dX5_whenLinesGo_30 hl (by decide) rfl (fun ls hl => ?_)
      refine lv_iload hx hb dX5_whenLinesGo_32 (lv_at hl 1 rfl) ?_
      refine lv_iload_n hx hb dX5_whenLinesGo_34 rfl (lv_at hl 4 rfl) ?_
      refine lv_icmp_ge (tgt := 43) hx hb dX5_whenLinesGo_35 (by decide) (fun c_3 => ?_) (fun c_3 => ?_)
      · have c_3v := le_nlt c_3
        refine lv_iload hx hb dX5_whenLinesGo_43 (lv_at hl 1 rfl) ?_
        refine lv_iload_n hx hb dX5_whenLinesGo_45 rfl (lv_at hl 5 rfl) ?_
        refine lv_isub hx hb dX5_whenLinesGo_46 ?_
        refine lv_iload_n hx hb dX5_whenLinesGo_47 rfl (lv_at hl 4 rfl) ?_
        refine va_mmax hx hb (F.2.2.1.trans hl.1.symm) F.2.2.2.1 (F.2.2.2.2.1 _ k_456) (F.2.2.2.2.1 _ k_457) (F.2.2.2.2.1 _ k_73) (F.2.2.2.2.1 _ k_458) (Nat.le_of_ble_eq_true rfl) (Nat.le_of_ble_eq_true rfl) (Nat.le_of_ble_eq_true rfl) (Nat.le_of_ble_eq_true rfl) dX5_whenLinesGo_48 ?_
        refine lv_istore (lv' := [(6, .int (if ((tLeast t ax) - n) < a then a else ((tLeast t ax) - n))), (5, .int (tGreat t ax)), (4, .int (tLeast t ax)), (0, .int t), (1, .int ax), (2, .int a), (3, .int n)]) hx hb dX5_whenLinesGo_51 hl (by decide) rfl (fun ls hl => ?_)
        refine lv_iload hx hb dX5_whenLinesGo_53 (lv_at hl 1 rfl) ?_
        refine lv_iload_n hx hb dX5_whenLinesGo_55 rfl (lv_at hl 6 rfl) ?_
        refine lv_isub hx hb dX5_whenLinesGo_56 ?_
        refine lv_iload_n hx hb dX5_whenLinesGo_57 rfl (lv_at hl 5 rfl) ?_
        refine lv_iconst (v := 1) hx hb dX5_whenLinesGo_58 (by decide) ?_
        refine lv_isub hx hb dX5_whenLinesGo_59 ?_
        refine va_mmax hx hb (F.2.2.1.trans hl.1.symm) F.2.2.2.1 (F.2.2.2.2.1 _ k_456) (F.2.2.2.2.1 _ k_457) (F.2.2.2.2.1 _ k_73) (F.2.2.2.2.1 _ k_458) (Nat.le_of_ble_eq_true rfl) (Nat.le_of_ble_eq_true rfl) (Nat.le_of_ble_eq_true rfl) (Nat.le_of_ble_eq_true rfl) dX5_whenLinesGo_60 ?_
        refine lv_istore (lv' := [(7, .int (if ((tGreat t ax) - n) < (a - (1 : Int32)) then (a - (1 : Int32)) else ((tGreat t ax) - n))), (6, .int (if ((tLeast t ax) - n) < a then a else ((tLeast t ax) - n))), (5, .int (tGreat t ax)), (4, .int (tLeast t ax)), (0, .int t), (1, .int ax), (2, .int a), (3, .int n)]) hx hb dX5_whenLinesGo_63 hl (by decide) rfl (fun ls hl => ?_)
        refine lv_iload hx hb dX5_whenLinesGo_65 (lv_at hl 0 rfl) ?_
        refine lv_iload hx hb dX5_whenLinesGo_67 (lv_at hl 1 rfl) ?_
        refine lv_icmp_ge (tgt := 74) hx hb dX5_whenLinesGo_69 (by decide) (fun c_4 => ?_) (fun c_4 => ?_)
        · have c_4v := le_nlt c_4
          refine lv_iload_n hx hb dX5_whenLinesGo_74 rfl (lv_at hl 4 rfl) ?_
          refine lv_iload_n hx hb dX5_whenLinesGo_75 rfl (lv_at hl 5 rfl) ?_
          refine lv_iload hx hb dX5_whenLinesGo_76 (lv_at hl 1 rfl) ?_
          refine cS_i F N (c_X5_with l G _ t ax (if ((tLeast t ax) - n) < a then a else ((tLeast t ax) - n))) miX5_with k_310 (by decide) hl.1 rfl (Nat.le_of_ble_eq_true rfl) dX5_whenLinesGo_78 (fun H locs N => ?_)
          refine lv_istore (lv' := [(8, .int (tWith t ax (if ((tLeast t ax) - n) < a then a else ((tLeast t ax) - n)))), (7, .int (if ((tGreat t ax) - n) < (a - (1 : Int32)) then (a - (1 : Int32)) else ((tGreat t ax) - n))), (6, .int (if ((tLeast t ax) - n) < a then a else ((tLeast t ax) - n))), (5, .int (tGreat t ax)), (4, .int (tLeast t ax)), (0, .int t), (1, .int ax), (2, .int a), (3, .int n)]) hx hb dX5_whenLinesGo_81 hl (by decide) rfl (fun ls hl => ?_)
          refine lv_iload_n hx hb dX5_whenLinesGo_83 rfl (lv_at hl 5 rfl) ?_
          refine cS_i F N (c_X5_kind l G _ t) miX5_kind k_428 (by decide) hl.1 rfl (Nat.le_of_ble_eq_true rfl) dX5_whenLinesGo_84 (fun H locs N => ?_)
          refine lv_iconst (v := 2) hx hb dX5_whenLinesGo_87 (by decide) ?_
          refine lv_icmp_ne (tgt := 96) hx hb dX5_whenLinesGo_88 (by decide) (fun c_5 => ?_) (fun c_5 => ?_)
          · refine lv_iload hx hb dX5_whenLinesGo_96 (lv_at hl 0 rfl) ?_
            refine lv_iload_n hx hb dX5_whenLinesGo_98 rfl (lv_at hl 6 rfl) ?_
            refine lv_iconst (v := 2) hx hb dX5_whenLinesGo_99 (by decide) ?_
            refine lv_iadd hx hb dX5_whenLinesGo_100 ?_
            refine lv_iload hx hb dX5_whenLinesGo_101 (lv_at hl 1 rfl) ?_
            refine cS_i F N (c_X5_with l G _ (tWith t ax (if ((tLeast t ax) - n) < a then a else ((tLeast t ax) - n))) (ax + (2 : Int32)) (if ((tGreat t ax) - n) < (a - (1 : Int32)) then (a - (1 : Int32)) else ((tGreat t ax) - n))) miX5_with k_310 (by decide) hl.1 rfl (Nat.le_of_ble_eq_true rfl) dX5_whenLinesGo_103 (fun H locs N => ?_)
            exact hret _ _ _ _ _ _ dX5_whenLinesGo_106 (by first | rfl | (simp [bI, tGo, tGoL, tGoG, c_1, c_2, c_2v, c_3, c_3v, c_4, c_4v, c_5])) (by first | rfl | (simp [bI, tGo, tGoL, tGoG, c_1, c_2, c_2v, c_3, c_3v, c_4, c_4v, c_5])) N
          · refine lv_iload hx hb dX5_whenLinesGo_91 (lv_at hl 0 rfl) ?_
            refine lv_goto (tgt := 106) hx hb dX5_whenLinesGo_93 (by decide) ?_
            exact hret _ _ _ _ _ _ dX5_whenLinesGo_106 (by first | rfl | (simp [bI, tGo, tGoL, tGoG, c_1, c_2, c_2v, c_3, c_3v, c_4, c_4v, c_5])) (by first | rfl | (simp [bI, tGo, tGoL, tGoG, c_1, c_2, c_2v, c_3, c_3v, c_4, c_4v, c_5])) N
        · have c_4v := nle_lt c_4
          refine lv_iconst (v := 4) hx hb dX5_whenLinesGo_72 (by decide) ?_
          exact hret _ _ _ _ _ _ dX5_whenLinesGo_73 (by first | rfl | (simp [bI, tGo, tGoL, tGoG, c_1, c_2, c_2v, c_3, c_3v, c_4, c_4v])) (by first | rfl | (simp [bI, tGo, tGoL, tGoG, c_1, c_2, c_2v, c_3, c_3v, c_4, c_4v])) N
      · have c_3v := nle_lt c_3
        refine lv_iload hx hb dX5_whenLinesGo_38 (lv_at hl 1 rfl) ?_
        refine lv_goto (tgt := 51) hx hb dX5_whenLinesGo_40 (by decide) ?_
        refine lv_istore (lv' := [(6, .int (tLeast t ax)), (5, .int (tGreat t ax)), (4, .int (tLeast t ax)), (0, .int t), (1, .int ax), (2, .int a), (3, .int n)]) hx hb dX5_whenLinesGo_51 hl (by decide) rfl (fun ls hl => ?_)
        refine lv_iload hx hb dX5_whenLinesGo_53 (lv_at hl 1 rfl) ?_
        refine lv_iload_n hx hb dX5_whenLinesGo_55 rfl (lv_at hl 6 rfl) ?_
        refine lv_isub hx hb dX5_whenLinesGo_56 ?_
        refine lv_iload_n hx hb dX5_whenLinesGo_57 rfl (lv_at hl 5 rfl) ?_
        refine lv_iconst (v := 1) hx hb dX5_whenLinesGo_58 (by decide) ?_
        refine lv_isub hx hb dX5_whenLinesGo_59 ?_
        refine va_mmax hx hb (F.2.2.1.trans hl.1.symm) F.2.2.2.1 (F.2.2.2.2.1 _ k_456) (F.2.2.2.2.1 _ k_457) (F.2.2.2.2.1 _ k_73) (F.2.2.2.2.1 _ k_458) (Nat.le_of_ble_eq_true rfl) (Nat.le_of_ble_eq_true rfl) (Nat.le_of_ble_eq_true rfl) (Nat.le_of_ble_eq_true rfl) dX5_whenLinesGo_60 ?_
        refine lv_istore (lv' := [(7, .int (if ((tGreat t ax) - n) < (a - (1 : Int32)) then (a - (1 : Int32)) else ((tGreat t ax) - n))), (6, .int (tLeast t ax)), (5, .int (tGreat t ax)), (4, .int (tLeast t ax)), (0, .int t), (1, .int ax), (2, .int a), (3, .int n)]) hx hb dX5_whenLinesGo_63 hl (by decide) rfl (fun ls hl => ?_)
        refine lv_iload hx hb dX5_whenLinesGo_65 (lv_at hl 0 rfl) ?_
        refine lv_iload hx hb dX5_whenLinesGo_67 (lv_at hl 1 rfl) ?_
        refine lv_icmp_ge (tgt := 74) hx hb dX5_whenLinesGo_69 (by decide) (fun c_6 => ?_) (fun c_6 => ?_)
        · have c_6v := le_nlt c_6
          refine lv_iload_n hx hb dX5_whenLinesGo_74 rfl (lv_at hl 4 rfl) ?_
          refine lv_iload_n hx hb dX5_whenLinesGo_75 rfl (lv_at hl 5 rfl) ?_
          refine lv_iload hx hb dX5_whenLinesGo_76 (lv_at hl 1 rfl) ?_
          refine cS_i F N (c_X5_with l G _ t ax (tLeast t ax)) miX5_with k_310 (by decide) hl.1 rfl (Nat.le_of_ble_eq_true rfl) dX5_whenLinesGo_78 (fun H locs N => ?_)
          refine lv_istore (lv' := [(8, .int (tWith t ax (tLeast t ax))), (7, .int (if ((tGreat t ax) - n) < (a - (1 : Int32)) then (a - (1 : Int32)) else ((tGreat t ax) - n))), (6, .int (tLeast t ax)), (5, .int (tGreat t ax)), (4, .int (tLeast t ax)), (0, .int t), (1, .int ax), (2, .int a), (3, .int n)]) hx hb dX5_whenLinesGo_81 hl (by decide) rfl (fun ls hl => ?_)
          refine lv_iload_n hx hb dX5_whenLinesGo_83 rfl (lv_at hl 5 rfl) ?_
          refine cS_i F N (c_X5_kind l G _ t) miX5_kind k_428 (by decide) hl.1 rfl (Nat.le_of_ble_eq_true rfl) dX5_whenLinesGo_84 (fun H locs N => ?_)
          refine lv_iconst (v := 2) hx hb dX5_whenLinesGo_87 (by decide) ?_
          refine lv_icmp_ne (tgt := 96) hx hb dX5_whenLinesGo_88 (by decide) (fun c_7 => ?_) (fun c_7 => ?_)
          · refine lv_iload hx hb dX5_whenLinesGo_96 (lv_at hl 0 rfl) ?_
            refine lv_iload_n hx hb dX5_whenLinesGo_98 rfl (lv_at hl 6 rfl) ?_
            refine lv_iconst (v := 2) hx hb dX5_whenLinesGo_99 (by decide) ?_
            refine lv_iadd hx hb dX5_whenLinesGo_100 ?_
            refine lv_iload hx hb dX5_whenLinesGo_101 (lv_at hl 1 rfl) ?_
            refine cS_i F N (c_X5_with l G _ (tWith t ax (tLeast t ax)) (ax + (2 : Int32)) (if ((tGreat t ax) - n) < (a - (1 : Int32)) then (a - (1 : Int32)) else ((tGreat t ax) - n))) miX5_with k_310 (by decide) hl.1 rfl (Nat.le_of_ble_eq_true rfl) dX5_whenLinesGo_103 (fun H locs N => ?_)
            exact hret _ _ _ _ _ _ dX5_whenLinesGo_106 (by first | rfl | (simp [bI, tGo, tGoL, tGoG, c_1, c_2, c_2v, c_3, c_3v, c_6, c_6v, c_7])) (by first | rfl | (simp [bI, tGo, tGoL, tGoG, c_1, c_2, c_2v, c_3, c_3v, c_6, c_6v, c_7])) N
          · refine lv_iload hx hb dX5_whenLinesGo_91 (lv_at hl 0 rfl) ?_
            refine lv_goto (tgt := 106) hx hb dX5_whenLinesGo_93 (by decide) ?_
            exact hret _ _ _ _ _ _ dX5_whenLinesGo_106 (by first | rfl | (simp [bI, tGo, tGoL, tGoG, c_1, c_2, c_2v, c_3, c_3v, c_6, c_6v, c_7])) (by first | rfl | (simp [bI, tGo, tGoL, tGoG, c_1, c_2, c_2v, c_3, c_3v, c_6, c_6v, c_7])) N
        · have c_6v := nle_lt c_6
          refine lv_iconst (v := 4) hx hb dX5_whenLinesGo_72 (by decide) ?_
          exact hret _ _ _ _ _ _ dX5_whenLinesGo_73 (by first | rfl | (simp [bI, tGo, tGoL, tGoG, c_1, c_2, c_2v, c_3, c_3v, c_6, c_6v])) (by first | rfl | (simp [bI, tGo, tGoL, tGoG, c_1, c_2, c_2v, c_3, c_3v, c_6, c_6v])) N
    · have c_2v := nle_lt c_2
      refine lv_iload_n hx hb dX5_whenLinesGo_16 rfl (lv_at hl 0 rfl) ?_
      exact hret _ _ _ _ _ _ dX5_whenLinesGo_17 (by first | rfl | (simp [bI, tGo, tGoL, tGoG, c_1, c_2, c_2v])) (by first | rfl | (simp [bI, tGo, tGoL, tGoG, c_1, c_2, c_2v])) N
set_option maxHeartbeats 4000000 in
set_option maxRecDepth 100000 in
theorem c_X4_lineOf (l : Launch) (G : GM) (w : va_W) (cell : Int32) (ax : Int32) : XCi l G yX4_lineOf cX4_lineOf 2 (some .int) 1 [.int cell, .int ax] (w) (lnOf cell ax) (w) := by
  refine xi_start (by decide) rfl (Nat.le_of_ble_eq_true rfl) ?_
  intro zp ze zs zm zargs zbelow zmeth zc zQ ls F N hl hret
  have hx := F.1
  have hb := F.2.1
  have hl : lv_has ls 2 [(0, .int cell), (1, .int ax)] := hl
  refine lv_iload_n hx hb dX4_lineOf_0 rfl (lv_at hl 1 rfl) ?_
  refine lv_if_ne (tgt := 11) hx hb dX4_lineOf_1 (by decide) (fun c_1 => ?_) (fun c_1 => ?_)
  · refine lv_iload_n hx hb dX4_lineOf_11 rfl (lv_at hl 0 rfl) ?_
    refine cN_i F N (c_X8_rowOf l G _ cell) miX8_rowOf k_399 (by decide) hl.1 rfl (Nat.le_of_ble_eq_true rfl) dX4_lineOf_12 (fun H locs N => ?_)
    exact hret _ _ _ _ _ _ dX4_lineOf_15 (by first | rfl | (simp [bI, lnOf, c_1])) (by first | rfl | (simp [bI, lnOf, c_1])) N
  · refine lv_iload_n hx hb dX4_lineOf_4 rfl (lv_at hl 0 rfl) ?_
    refine cN_i F N (c_X8_columnOf l G _ cell) miX8_columnOf k_396 (by decide) hl.1 rfl (Nat.le_of_ble_eq_true rfl) dX4_lineOf_5 (fun H locs N => ?_)
    refine lv_goto (tgt := 15) hx hb dX4_lineOf_8 (by decide) ?_
    exact hret _ _ _ _ _ _ dX4_lineOf_15 (by first | rfl | (simp [bI, lnOf, c_1])) (by first | rfl | (simp [bI, lnOf, c_1])) N
set_option maxHeartbeats 4000000 in
set_option maxRecDepth 100000 in
theorem c_X4_lineAfterComing (l : Launch) (G : GM) (w : va_W) (ln : Int32) (a : Int32) (n : Int32) : XCi l G yX4_lineAfterComing cX4_lineAfterComing 3 (some .int) 0 [.int ln, .int a, .int n] (w) (lnCome ln a n) (w) := by
  refine xi_start (by decide) rfl (Nat.le_of_ble_eq_true rfl) ?_
  intro zp ze zs zm zargs zbelow zmeth zc zQ ls F N hl hret
  have hx := F.1
  have hb := F.2.1
  have hl : lv_has ls 3 [(0, .int ln), (1, .int a), (2, .int n)] := hl
  refine lv_iload_n hx hb dX4_lineAfterComing_0 rfl (lv_at hl 0 rfl) ?_
  refine lv_iload_n hx hb dX4_lineAfterComing_1 rfl (lv_at hl 1 rfl) ?_
  refine lv_icmp_ge (tgt := 7) hx hb dX4_lineAfterComing_2 (by decide) (fun c_1 => ?_) (fun c_1 => ?_)
  · have c_1v := le_nlt c_1
    refine lv_iload_n hx hb dX4_lineAfterComing_7 rfl (lv_at hl 0 rfl) ?_
    refine lv_iload_n hx hb dX4_lineAfterComing_8 rfl (lv_at hl 2 rfl) ?_
    refine lv_iadd hx hb dX4_lineAfterComing_9 ?_
    refine lv_bipush (v := 6) hx hb dX4_lineAfterComing_10 (by decide) ?_
    refine lv_icmp_ge (tgt := 21) hx hb dX4_lineAfterComing_12 (by decide) (fun c_2 => ?_) (fun c_2 => ?_)
    · have c_2v := le_nlt c_2
      refine lv_iconst (v := (-1)) hx hb dX4_lineAfterComing_21 (by decide) ?_
      exact hret _ _ _ _ _ _ dX4_lineAfterComing_22 (by first | rfl | (simp [bI, lnCome, c_1, c_1v, c_2, c_2v])) (by first | rfl | (simp [bI, lnCome, c_1, c_1v, c_2, c_2v])) N
    · have c_2v := nle_lt c_2
      refine lv_iload_n hx hb dX4_lineAfterComing_15 rfl (lv_at hl 0 rfl) ?_
      refine lv_iload_n hx hb dX4_lineAfterComing_16 rfl (lv_at hl 2 rfl) ?_
      refine lv_iadd hx hb dX4_lineAfterComing_17 ?_
      refine lv_goto (tgt := 22) hx hb dX4_lineAfterComing_18 (by decide) ?_
      exact hret _ _ _ _ _ _ dX4_lineAfterComing_22 (by first | rfl | (simp [bI, lnCome, c_1, c_1v, c_2, c_2v])) (by first | rfl | (simp [bI, lnCome, c_1, c_1v, c_2, c_2v])) N
  · have c_1v := nle_lt c_1
    refine lv_iload_n hx hb dX4_lineAfterComing_5 rfl (lv_at hl 0 rfl) ?_
    exact hret _ _ _ _ _ _ dX4_lineAfterComing_6 (by first | rfl | (simp [bI, lnCome, c_1, c_1v])) (by first | rfl | (simp [bI, lnCome, c_1, c_1v])) N
set_option maxHeartbeats 4000000 in
set_option maxRecDepth 100000 in
theorem c_X4_lineAfterGoing (l : Launch) (G : GM) (w : va_W) (ln : Int32) (a : Int32) (n : Int32) : XCi l G yX4_lineAfterGoing cX4_lineAfterGoing 3 (some .int) 0 [.int ln, .int a, .int n] (w) (lnGo ln a n) (w) := by
  refine xi_start (by decide) rfl (Nat.le_of_ble_eq_true rfl) ?_
  intro zp ze zs zm zargs zbelow zmeth zc zQ ls F N hl hret
  have hx := F.1
  have hb := F.2.1
  have hl : lv_has ls 3 [(0, .int ln), (1, .int a), (2, .int n)] := hl
  refine lv_iload_n hx hb dX4_lineAfterGoing_0 rfl (lv_at hl 0 rfl) ?_
  refine lv_iload_n hx hb dX4_lineAfterGoing_1 rfl (lv_at hl 1 rfl) ?_
  refine lv_icmp_ge (tgt := 7) hx hb dX4_lineAfterGoing_2 (by decide) (fun c_1 => ?_) (fun c_1 => ?_)
  · have c_1v := le_nlt c_1
    refine lv_iload_n hx hb dX4_lineAfterGoing_7 rfl (lv_at hl 0 rfl) ?_
    refine lv_iload_n hx hb dX4_lineAfterGoing_8 rfl (lv_at hl 1 rfl) ?_
    refine lv_iload_n hx hb dX4_lineAfterGoing_9 rfl (lv_at hl 2 rfl) ?_
    refine lv_iadd hx hb dX4_lineAfterGoing_10 ?_
    refine lv_icmp_lt (tgt := 20) hx hb dX4_lineAfterGoing_11 (by decide) (fun c_2 => ?_) (fun c_2 => ?_)
    · have c_2v := lt_nle c_2
      refine lv_iconst (v := (-1)) hx hb dX4_lineAfterGoing_20 (by decide) ?_
      exact hret _ _ _ _ _ _ dX4_lineAfterGoing_21 (by first | rfl | (simp [bI, lnGo, c_1, c_1v, c_2, c_2v])) (by first | rfl | (simp [bI, lnGo, c_1, c_1v, c_2, c_2v])) N
    · have c_2v := nlt_le c_2
      refine lv_iload_n hx hb dX4_lineAfterGoing_14 rfl (lv_at hl 0 rfl) ?_
      refine lv_iload_n hx hb dX4_lineAfterGoing_15 rfl (lv_at hl 2 rfl) ?_
      refine lv_isub hx hb dX4_lineAfterGoing_16 ?_
      refine lv_goto (tgt := 21) hx hb dX4_lineAfterGoing_17 (by decide) ?_
      exact hret _ _ _ _ _ _ dX4_lineAfterGoing_21 (by first | rfl | (simp [bI, lnGo, c_1, c_1v, c_2, c_2v])) (by first | rfl | (simp [bI, lnGo, c_1, c_1v, c_2, c_2v])) N
  · have c_1v := nle_lt c_1
    refine lv_iload_n hx hb dX4_lineAfterGoing_5 rfl (lv_at hl 0 rfl) ?_
    exact hret _ _ _ _ _ _ dX4_lineAfterGoing_6 (by first | rfl | (simp [bI, lnGo, c_1, c_1v])) (by first | rfl | (simp [bI, lnGo, c_1, c_1v])) N
set_option maxHeartbeats 4000000 in
set_option maxRecDepth 100000 in
theorem c_X3_isFigure (l : Launch) (G : GM) (w : va_W) (b : Int32) : XCi l G yX3_isFigure cX3_isFigure 1 (some .boolean) 0 [.int b] (w) (bI (rFig b)) (w) := by
  refine xi_start (by decide) (nar_bI _) (Nat.le_of_ble_eq_true rfl) ?_
  intro zp ze zs zm zargs zbelow zmeth zc zQ ls F N hl hret
  have hx := F.1
  have hb := F.2.1
  have hl : lv_has ls 1 [(0, .int b)] := hl
  refine lv_iload_n hx hb dX3_isFigure_0 rfl (lv_at hl 0 rfl) ?_
  refine lv_bipush (v := 48) hx hb dX3_isFigure_1 (by decide) ?_
  refine lv_icmp_lt (tgt := 16) hx hb dX3_isFigure_3 (by decide) (fun c_1 => ?_) (fun c_1 => ?_)
  · have c_1v := lt_nle c_1
    refine lv_iconst (v := 0) hx hb dX3_isFigure_16 (by decide) ?_
    exact hret _ _ _ _ _ _ dX3_isFigure_17 (by first | rfl | (simp [bI, rFig, c_1, c_1v])) (by first | rfl | (simp [bI, rFig, c_1, c_1v])) N
  · have c_1v := nlt_le c_1
    refine lv_iload_n hx hb dX3_isFigure_6 rfl (lv_at hl 0 rfl) ?_
    refine lv_bipush (v := 57) hx hb dX3_isFigure_7 (by decide) ?_
    refine lv_icmp_gt (tgt := 16) hx hb dX3_isFigure_9 (by decide) (fun c_2 => ?_) (fun c_2 => ?_)
    · have c_2v := lt_nle c_2
      refine lv_iconst (v := 0) hx hb dX3_isFigure_16 (by decide) ?_
      exact hret _ _ _ _ _ _ dX3_isFigure_17 (by first | rfl | (simp [bI, rFig, c_1, c_1v, c_2, c_2v])) (by first | rfl | (simp [bI, rFig, c_1, c_1v, c_2, c_2v])) N
    · have c_2v := nlt_le c_2
      refine lv_iconst (v := 1) hx hb dX3_isFigure_12 (by decide) ?_
      refine lv_goto (tgt := 17) hx hb dX3_isFigure_13 (by decide) ?_
      exact hret _ _ _ _ _ _ dX3_isFigure_17 (by first | rfl | (simp [bI, rFig, c_1, c_1v, c_2, c_2v])) (by first | rfl | (simp [bI, rFig, c_1, c_1v, c_2, c_2v])) N
set_option maxHeartbeats 4000000 in
set_option maxRecDepth 100000 in
theorem c_X3_columnNamed (l : Launch) (G : GM) (w : va_W) (b : Int32) : XCi l G yX3_columnNamed cX3_columnNamed 2 (some .int) 1 [.int b] (w) (rCol b) (w) := by
  refine xi_start (by decide) rfl (Nat.le_of_ble_eq_true rfl) ?_
  intro zp ze zs zm zargs zbelow zmeth zc zQ ls F N hl hret
  have hx := F.1
  have hb := F.2.1
  have hl : lv_has ls 2 [(0, .int b)] := hl
  refine lv_iload_n hx hb dX3_columnNamed_0 rfl (lv_at hl 0 rfl) ?_
  refine lv_bipush (v := 97) hx hb dX3_columnNamed_1 (by decide) ?_
  refine lv_icmp_lt (tgt := 13) hx hb dX3_columnNamed_3 (by decide) (fun c_1 => ?_) (fun c_1 => ?_)
  · have c_1v := lt_nle c_1
    refine lv_iload_n hx hb dX3_columnNamed_13 rfl (lv_at hl 0 rfl) ?_
    refine lv_bipush (v := 65) hx hb dX3_columnNamed_14 (by decide) ?_
    refine lv_isub hx hb dX3_columnNamed_16 ?_
    refine lv_istore_n (lv' := [(1, .int (b - (65 : Int32))), (0, .int b)]) hx hb dX3_columnNamed_17 rfl hl (by decide) rfl (fun ls hl => ?_)
    refine lv_iload_n hx hb dX3_columnNamed_18 rfl (lv_at hl 0 rfl) ?_
    refine lv_iconst (v := 0) hx hb dX3_columnNamed_19 (by decide) ?_
    refine lv_iconst (v := 5) hx hb dX3_columnNamed_20 (by decide) ?_
    refine cN_i F N (c_X8_isWithin l G _ (b - (65 : Int32)) 0 5) miX8_isWithin k_306 (by decide) hl.1 rfl (Nat.le_of_ble_eq_true rfl) dX3_columnNamed_21 (fun H locs N => ?_)
    refine ifB_eq (tgt := 31) hx hb dX3_columnNamed_24 (by decide) (fun c_2 => ?_) (fun c_2 => ?_)
    · refine lv_iconst (v := (-1)) hx hb dX3_columnNamed_31 (by decide) ?_
      exact hret _ _ _ _ _ _ dX3_columnNamed_32 (by first | rfl | (simp [bI, rCol, c_1, c_1v, c_2])) (by first | rfl | (simp [bI, rCol, c_1, c_1v, c_2])) N
    · refine lv_iload_n hx hb dX3_columnNamed_27 rfl (lv_at hl 0 rfl) ?_
      refine lv_goto (tgt := 32) hx hb dX3_columnNamed_28 (by decide) ?_
      exact hret _ _ _ _ _ _ dX3_columnNamed_32 (by first | rfl | (simp [bI, rCol, c_1, c_1v, c_2])) (by first | rfl | (simp [bI, rCol, c_1, c_1v, c_2])) N
  · have c_1v := nlt_le c_1
    refine lv_iload_n hx hb dX3_columnNamed_6 rfl (lv_at hl 0 rfl) ?_
    refine lv_bipush (v := 97) hx hb dX3_columnNamed_7 (by decide) ?_
    refine lv_isub hx hb dX3_columnNamed_9 ?_
    refine lv_goto (tgt := 17) hx hb dX3_columnNamed_10 (by decide) ?_
    refine lv_istore_n (lv' := [(1, .int (b - (97 : Int32))), (0, .int b)]) hx hb dX3_columnNamed_17 rfl hl (by decide) rfl (fun ls hl => ?_)
    refine lv_iload_n hx hb dX3_columnNamed_18 rfl (lv_at hl 0 rfl) ?_
    refine lv_iconst (v := 0) hx hb dX3_columnNamed_19 (by decide) ?_
    refine lv_iconst (v := 5) hx hb dX3_columnNamed_20 (by decide) ?_
    refine cN_i F N (c_X8_isWithin l G _ (b - (97 : Int32)) 0 5) miX8_isWithin k_306 (by decide) hl.1 rfl (Nat.le_of_ble_eq_true rfl) dX3_columnNamed_21 (fun H locs N => ?_)
    refine ifB_eq (tgt := 31) hx hb dX3_columnNamed_24 (by decide) (fun c_3 => ?_) (fun c_3 => ?_)
    · refine lv_iconst (v := (-1)) hx hb dX3_columnNamed_31 (by decide) ?_
      exact hret _ _ _ _ _ _ dX3_columnNamed_32 (by first | rfl | (simp [bI, rCol, c_1, c_1v, c_3])) (by first | rfl | (simp [bI, rCol, c_1, c_1v, c_3])) N
    · refine lv_iload_n hx hb dX3_columnNamed_27 rfl (lv_at hl 0 rfl) ?_
      refine lv_goto (tgt := 32) hx hb dX3_columnNamed_28 (by decide) ?_
      exact hret _ _ _ _ _ _ dX3_columnNamed_32 (by first | rfl | (simp [bI, rCol, c_1, c_1v, c_3])) (by first | rfl | (simp [bI, rCol, c_1, c_1v, c_3])) N
end
