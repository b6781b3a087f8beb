-- ===== PART A: goes FIRST, ahead of the names: the tables' words, and 'selects' of the private methods out of them =====
/-- a private method of a class that the tables say can be made, by its rows of tables_1 -/
def lw_okq (q : MethodName × Nat) : Prop := (q.1.cls ≠ "java/lang/invoke/MethodHandle" ∧ q.1.cls ≠ "java/lang/invoke/VarHandle") ∧ Cond.instantiable q.1.cls q.2 ∈ tables_1 ∧ Cond.privateMethod q.1 ∈ tables_1 ∧ Cond.instanceMethod q.1 ∈ tables_1
theorem lw_p0 : lw_okq (⟨"LooseGrid$Reader", "parseClause", "([I)V"⟩, 6) := ⟨⟨by decide +kernel, by decide +kernel⟩, List.mem_of_getElem? (i := 124) (by decide +kernel), List.mem_of_getElem? (i := 254) (by decide +kernel), List.mem_of_getElem? (i := 255) (by decide +kernel)⟩
theorem lw_p1 : lw_okq (⟨"LooseGrid$Reader", "parseKind", "()I"⟩, 6) := ⟨⟨by decide +kernel, by decide +kernel⟩, List.mem_of_getElem? (i := 124) (by decide +kernel), List.mem_of_getElem? (i := 258) (by decide +kernel), List.mem_of_getElem? (i := 259) (by decide +kernel)⟩
theorem lw_p2 : lw_okq (⟨"LooseGrid$Reader", "signHere", "()I"⟩, 6) := ⟨⟨by decide +kernel, by decide +kernel⟩, List.mem_of_getElem? (i := 124) (by decide +kernel), List.mem_of_getElem? (i := 262) (by decide +kernel), List.mem_of_getElem? (i := 263) (by decide +kernel)⟩
theorem lw_p3 : lw_okq (⟨"LooseGrid$Reader", "fail", "(I)V"⟩, 6) := ⟨⟨by decide +kernel, by decide +kernel⟩, List.mem_of_getElem? (i := 124) (by decide +kernel), List.mem_of_getElem? (i := 269) (by decide +kernel), List.mem_of_getElem? (i := 270) (by decide +kernel)⟩
theorem lw_p4 : lw_okq (⟨"LooseGrid$Reader", "parseNumber", "(III)I"⟩, 6) := ⟨⟨by decide +kernel, by decide +kernel⟩, List.mem_of_getElem? (i := 124) (by decide +kernel), List.mem_of_getElem? (i := 273) (by decide +kernel), List.mem_of_getElem? (i := 274) (by decide +kernel)⟩
theorem lw_p5 : lw_okq (⟨"LooseGrid$Reader", "parseSign", "(C)V"⟩, 6) := ⟨⟨by decide +kernel, by decide +kernel⟩, List.mem_of_getElem? (i := 124) (by decide +kernel), List.mem_of_getElem? (i := 278) (by decide +kernel), List.mem_of_getElem? (i := 279) (by decide +kernel)⟩
theorem lw_p6 : lw_okq (⟨"LooseGrid$Reader", "parseSpeed", "()I"⟩, 6) := ⟨⟨by decide +kernel, by decide +kernel⟩, List.mem_of_getElem? (i := 124) (by decide +kernel), List.mem_of_getElem? (i := 282) (by decide +kernel), List.mem_of_getElem? (i := 283) (by decide +kernel)⟩
theorem lw_p7 : lw_okq (⟨"LooseGrid", "letIn", "([I)V"⟩, 6) := ⟨⟨by decide +kernel, by decide +kernel⟩, List.mem_of_getElem? (i := 12) (by decide +kernel), List.mem_of_getElem? (i := 286) (by decide +kernel), List.mem_of_getElem? (i := 287) (by decide +kernel)⟩
theorem lw_p8 : lw_okq (⟨"LooseGrid$World", "nextNearest", "(IIII)I"⟩, 8) := ⟨⟨by decide +kernel, by decide +kernel⟩, List.mem_of_getElem? (i := 20) (by decide +kernel), List.mem_of_getElem? (i := 431) (by decide +kernel), List.mem_of_getElem? (i := 432) (by decide +kernel)⟩
theorem lw_p9 : lw_okq (⟨"LooseGrid$Box", "stepToRim", "(II)V"⟩, 9) := ⟨⟨by decide +kernel, by decide +kernel⟩, List.mem_of_getElem? (i := 27) (by decide +kernel), List.mem_of_getElem? (i := 473) (by decide +kernel), List.mem_of_getElem? (i := 474) (by decide +kernel)⟩
theorem lw_p10 : lw_okq (⟨"LooseGrid", "onTrial", "(ILLooseGrid$Box;)I"⟩, 6) := ⟨⟨by decide +kernel, by decide +kernel⟩, List.mem_of_getElem? (i := 12) (by decide +kernel), List.mem_of_getElem? (i := 493) (by decide +kernel), List.mem_of_getElem? (i := 494) (by decide +kernel)⟩
theorem lw_p11 : lw_okq (⟨"LooseGrid", "wouldBeSeen", "(II)Z"⟩, 6) := ⟨⟨by decide +kernel, by decide +kernel⟩, List.mem_of_getElem? (i := 12) (by decide +kernel), List.mem_of_getElem? (i := 522) (by decide +kernel), List.mem_of_getElem? (i := 523) (by decide +kernel)⟩
theorem lw_p12 : lw_okq (⟨"LooseGrid", "carryOut", "(II)V"⟩, 6) := ⟨⟨by decide +kernel, by decide +kernel⟩, List.mem_of_getElem? (i := 12) (by decide +kernel), List.mem_of_getElem? (i := 559) (by decide +kernel), List.mem_of_getElem? (i := 560) (by decide +kernel)⟩
theorem lw_p13 : lw_okq (⟨"LooseGrid", "findTape", "(I)LLooseGrid$Tape;"⟩, 6) := ⟨⟨by decide +kernel, by decide +kernel⟩, List.mem_of_getElem? (i := 12) (by decide +kernel), List.mem_of_getElem? (i := 576) (by decide +kernel), List.mem_of_getElem? (i := 577) (by decide +kernel)⟩
theorem lw_p14 : lw_okq (⟨"LooseGridModel", "comes", "(IIIIII)I"⟩, 18) := ⟨⟨by decide +kernel, by decide +kernel⟩, List.mem_of_getElem? (i := 640) (by decide +kernel), List.mem_of_getElem? (i := 707) (by decide +kernel), List.mem_of_getElem? (i := 708) (by decide +kernel)⟩
theorem lw_p15 : lw_okq (⟨"LooseGridModel", "sets", "(III)V"⟩, 18) := ⟨⟨by decide +kernel, by decide +kernel⟩, List.mem_of_getElem? (i := 640) (by decide +kernel), List.mem_of_getElem? (i := 717) (by decide +kernel), List.mem_of_getElem? (i := 718) (by decide +kernel)⟩
def lw_privs_1 : List (MethodName × Nat) := [(⟨"LooseGrid$Reader", "parseClause", "([I)V"⟩, 6), (⟨"LooseGrid$Reader", "parseKind", "()I"⟩, 6), (⟨"LooseGrid$Reader", "signHere", "()I"⟩, 6), (⟨"LooseGrid$Reader", "fail", "(I)V"⟩, 6), (⟨"LooseGrid$Reader", "parseNumber", "(III)I"⟩, 6), (⟨"LooseGrid$Reader", "parseSign", "(C)V"⟩, 6), (⟨"LooseGrid$Reader", "parseSpeed", "()I"⟩, 6), (⟨"LooseGrid", "letIn", "([I)V"⟩, 6), (⟨"LooseGrid$World", "nextNearest", "(IIII)I"⟩, 8), (⟨"LooseGrid$Box", "stepToRim", "(II)V"⟩, 9), (⟨"LooseGrid", "onTrial", "(ILLooseGrid$Box;)I"⟩, 6), (⟨"LooseGrid", "wouldBeSeen", "(II)Z"⟩, 6), (⟨"LooseGrid", "carryOut", "(II)V"⟩, 6), (⟨"LooseGrid", "findTape", "(I)LLooseGrid$Tape;"⟩, 6), (⟨"LooseGridModel", "comes", "(IIIIII)I"⟩, 18), (⟨"LooseGridModel", "sets", "(III)V"⟩, 18)]
theorem lw_r1 : ∀ q ∈ lw_privs_1, lw_okq q := List.forall_mem_cons.mpr ⟨lw_p0, List.forall_mem_cons.mpr ⟨lw_p1, List.forall_mem_cons.mpr ⟨lw_p2, List.forall_mem_cons.mpr ⟨lw_p3, List.forall_mem_cons.mpr ⟨lw_p4, List.forall_mem_cons.mpr ⟨lw_p5, List.forall_mem_cons.mpr ⟨lw_p6, List.forall_mem_cons.mpr ⟨lw_p7, List.forall_mem_cons.mpr ⟨lw_p8, List.forall_mem_cons.mpr ⟨lw_p9, List.forall_mem_cons.mpr ⟨lw_p10, List.forall_mem_cons.mpr ⟨lw_p11, List.forall_mem_cons.mpr ⟨lw_p12, List.forall_mem_cons.mpr ⟨lw_p13, List.forall_mem_cons.mpr ⟨lw_p14, List.forall_mem_cons.mpr ⟨lw_p15, fun _ h => absurd h List.not_mem_nil⟩⟩⟩⟩⟩⟩⟩⟩⟩⟩⟩⟩⟩⟩⟩⟩
theorem lw_p16 : lw_okq (⟨"LooseGridModel", "isBox", "(I)Z"⟩, 18) := ⟨⟨by decide +kernel, by decide +kernel⟩, List.mem_of_getElem? (i := 640) (by decide +kernel), List.mem_of_getElem? (i := 725) (by decide +kernel), List.mem_of_getElem? (i := 726) (by decide +kernel)⟩
theorem lw_p17 : lw_okq (⟨"LooseGridModel", "at", "(II)I"⟩, 18) := ⟨⟨by decide +kernel, by decide +kernel⟩, List.mem_of_getElem? (i := 640) (by decide +kernel), List.mem_of_getElem? (i := 729) (by decide +kernel), List.mem_of_getElem? (i := 730) (by decide +kernel)⟩
theorem lw_p18 : lw_okq (⟨"LooseGridModel", "there", "()I"⟩, 18) := ⟨⟨by decide +kernel, by decide +kernel⟩, List.mem_of_getElem? (i := 640) (by decide +kernel), List.mem_of_getElem? (i := 741) (by decide +kernel), List.mem_of_getElem? (i := 742) (by decide +kernel)⟩
theorem lw_p19 : lw_okq (⟨"LooseGridModel", "clause", "(I)V"⟩, 18) := ⟨⟨by decide +kernel, by decide +kernel⟩, List.mem_of_getElem? (i := 640) (by decide +kernel), List.mem_of_getElem? (i := 757) (by decide +kernel), List.mem_of_getElem? (i := 758) (by decide +kernel)⟩
theorem lw_p20 : lw_okq (⟨"LooseGridModel", "kindHere", "()I"⟩, 18) := ⟨⟨by decide +kernel, by decide +kernel⟩, List.mem_of_getElem? (i := 640) (by decide +kernel), List.mem_of_getElem? (i := 761) (by decide +kernel), List.mem_of_getElem? (i := 762) (by decide +kernel)⟩
theorem lw_p21 : lw_okq (⟨"LooseGridModel", "sees", "(II)Z"⟩, 18) := ⟨⟨by decide +kernel, by decide +kernel⟩, List.mem_of_getElem? (i := 640) (by decide +kernel), List.mem_of_getElem? (i := 765) (by decide +kernel), List.mem_of_getElem? (i := 766) (by decide +kernel)⟩
theorem lw_p22 : lw_okq (⟨"LooseGridModel", "must", "(II)I"⟩, 18) := ⟨⟨by decide +kernel, by decide +kernel⟩, List.mem_of_getElem? (i := 640) (by decide +kernel), List.mem_of_getElem? (i := 769) (by decide +kernel), List.mem_of_getElem? (i := 770) (by decide +kernel)⟩
theorem lw_p23 : lw_okq (⟨"LooseGridModel", "number", "(III)I"⟩, 18) := ⟨⟨by decide +kernel, by decide +kernel⟩, List.mem_of_getElem? (i := 640) (by decide +kernel), List.mem_of_getElem? (i := 773) (by decide +kernel), List.mem_of_getElem? (i := 774) (by decide +kernel)⟩
theorem lw_p24 : lw_okq (⟨"LooseGridModel", "speedHere", "()I"⟩, 18) := ⟨⟨by decide +kernel, by decide +kernel⟩, List.mem_of_getElem? (i := 640) (by decide +kernel), List.mem_of_getElem? (i := 777) (by decide +kernel), List.mem_of_getElem? (i := 778) (by decide +kernel)⟩
theorem lw_p25 : lw_okq (⟨"LooseGridModel", "looksAt", "(I)Z"⟩, 18) := ⟨⟨by decide +kernel, by decide +kernel⟩, List.mem_of_getElem? (i := 640) (by decide +kernel), List.mem_of_getElem? (i := 786) (by decide +kernel), List.mem_of_getElem? (i := 787) (by decide +kernel)⟩
theorem lw_p26 : lw_okq (⟨"LooseGridModel", "isSplit", "(III)Z"⟩, 18) := ⟨⟨by decide +kernel, by decide +kernel⟩, List.mem_of_getElem? (i := 640) (by decide +kernel), List.mem_of_getElem? (i := 790) (by decide +kernel), List.mem_of_getElem? (i := 791) (by decide +kernel)⟩
theorem lw_p27 : lw_okq (⟨"LooseGridModel", "wholeIn", "(III)I"⟩, 18) := ⟨⟨by decide +kernel, by decide +kernel⟩, List.mem_of_getElem? (i := 640) (by decide +kernel), List.mem_of_getElem? (i := 794) (by decide +kernel), List.mem_of_getElem? (i := 795) (by decide +kernel)⟩
theorem lw_p28 : lw_okq (⟨"LooseGridModel", "isWhole", "(IIII)Z"⟩, 18) := ⟨⟨by decide +kernel, by decide +kernel⟩, List.mem_of_getElem? (i := 640) (by decide +kernel), List.mem_of_getElem? (i := 798) (by decide +kernel), List.mem_of_getElem? (i := 799) (by decide +kernel)⟩
theorem lw_p29 : lw_okq (⟨"LooseGridModel", "pathOf", "(I)I"⟩, 18) := ⟨⟨by decide +kernel, by decide +kernel⟩, List.mem_of_getElem? (i := 640) (by decide +kernel), List.mem_of_getElem? (i := 802) (by decide +kernel), List.mem_of_getElem? (i := 803) (by decide +kernel)⟩
theorem lw_p30 : lw_okq (⟨"LooseGridModel", "touches", "(III)Z"⟩, 18) := ⟨⟨by decide +kernel, by decide +kernel⟩, List.mem_of_getElem? (i := 640) (by decide +kernel), List.mem_of_getElem? (i := 810) (by decide +kernel), List.mem_of_getElem? (i := 811) (by decide +kernel)⟩
theorem lw_p31 : lw_okq (⟨"LooseGridModel", "covers", "(IIIII)Z"⟩, 18) := ⟨⟨by decide +kernel, by decide +kernel⟩, List.mem_of_getElem? (i := 640) (by decide +kernel), List.mem_of_getElem? (i := 814) (by decide +kernel), List.mem_of_getElem? (i := 815) (by decide +kernel)⟩
def lw_privs_2 : List (MethodName × Nat) := [(⟨"LooseGridModel", "isBox", "(I)Z"⟩, 18), (⟨"LooseGridModel", "at", "(II)I"⟩, 18), (⟨"LooseGridModel", "there", "()I"⟩, 18), (⟨"LooseGridModel", "clause", "(I)V"⟩, 18), (⟨"LooseGridModel", "kindHere", "()I"⟩, 18), (⟨"LooseGridModel", "sees", "(II)Z"⟩, 18), (⟨"LooseGridModel", "must", "(II)I"⟩, 18), (⟨"LooseGridModel", "number", "(III)I"⟩, 18), (⟨"LooseGridModel", "speedHere", "()I"⟩, 18), (⟨"LooseGridModel", "looksAt", "(I)Z"⟩, 18), (⟨"LooseGridModel", "isSplit", "(III)Z"⟩, 18), (⟨"LooseGridModel", "wholeIn", "(III)I"⟩, 18), (⟨"LooseGridModel", "isWhole", "(IIII)Z"⟩, 18), (⟨"LooseGridModel", "pathOf", "(I)I"⟩, 18), (⟨"LooseGridModel", "touches", "(III)Z"⟩, 18), (⟨"LooseGridModel", "covers", "(IIIII)Z"⟩, 18)]
theorem lw_r2 : ∀ q ∈ lw_privs_2, lw_okq q := List.forall_mem_cons.mpr ⟨lw_p16, List.forall_mem_cons.mpr ⟨lw_p17, List.forall_mem_cons.mpr ⟨lw_p18, List.forall_mem_cons.mpr ⟨lw_p19, List.forall_mem_cons.mpr ⟨lw_p20, List.forall_mem_cons.mpr ⟨lw_p21, List.forall_mem_cons.mpr ⟨lw_p22, List.forall_mem_cons.mpr ⟨lw_p23, List.forall_mem_cons.mpr ⟨lw_p24, List.forall_mem_cons.mpr ⟨lw_p25, List.forall_mem_cons.mpr ⟨lw_p26, List.forall_mem_cons.mpr ⟨lw_p27, List.forall_mem_cons.mpr ⟨lw_p28, List.forall_mem_cons.mpr ⟨lw_p29, List.forall_mem_cons.mpr ⟨lw_p30, List.forall_mem_cons.mpr ⟨lw_p31, fun _ h => absurd h List.not_mem_nil⟩⟩⟩⟩⟩⟩⟩⟩⟩⟩⟩⟩⟩⟩⟩⟩
theorem lw_p32 : lw_okq (⟨"LooseGridModel", "squaresOfAll", "()I"⟩, 18) := ⟨⟨by decide +kernel, by decide +kernel⟩, List.mem_of_getElem? (i := 640) (by decide +kernel), List.mem_of_getElem? (i := 822) (by decide +kernel), List.mem_of_getElem? (i := 823) (by decide +kernel)⟩
theorem lw_p33 : lw_okq (⟨"LooseGridModel", "squares", "(IIII)I"⟩, 18) := ⟨⟨by decide +kernel, by decide +kernel⟩, List.mem_of_getElem? (i := 640) (by decide +kernel), List.mem_of_getElem? (i := 826) (by decide +kernel), List.mem_of_getElem? (i := 827) (by decide +kernel)⟩
theorem lw_p34 : lw_okq (⟨"LooseGridModel", "pairs", "()I"⟩, 18) := ⟨⟨by decide +kernel, by decide +kernel⟩, List.mem_of_getElem? (i := 640) (by decide +kernel), List.mem_of_getElem? (i := 830) (by decide +kernel), List.mem_of_getElem? (i := 831) (by decide +kernel)⟩
theorem lw_p35 : lw_okq (⟨"LooseGridModel", "meet", "(I)I"⟩, 18) := ⟨⟨by decide +kernel, by decide +kernel⟩, List.mem_of_getElem? (i := 640) (by decide +kernel), List.mem_of_getElem? (i := 834) (by decide +kernel), List.mem_of_getElem? (i := 835) (by decide +kernel)⟩
theorem lw_p36 : lw_okq (⟨"LooseGridModel", "isPair", "(II)Z"⟩, 18) := ⟨⟨by decide +kernel, by decide +kernel⟩, List.mem_of_getElem? (i := 640) (by decide +kernel), List.mem_of_getElem? (i := 838) (by decide +kernel), List.mem_of_getElem? (i := 839) (by decide +kernel)⟩
theorem lw_p37 : lw_okq (⟨"LooseGridModel", "cellsTouched", "()I"⟩, 18) := ⟨⟨by decide +kernel, by decide +kernel⟩, List.mem_of_getElem? (i := 640) (by decide +kernel), List.mem_of_getElem? (i := 842) (by decide +kernel), List.mem_of_getElem? (i := 843) (by decide +kernel)⟩
theorem lw_p38 : lw_okq (⟨"LooseGridModel", "cellsOf", "(I)I"⟩, 18) := ⟨⟨by decide +kernel, by decide +kernel⟩, List.mem_of_getElem? (i := 640) (by decide +kernel), List.mem_of_getElem? (i := 854) (by decide +kernel), List.mem_of_getElem? (i := 855) (by decide +kernel)⟩
theorem lw_p39 : lw_okq (⟨"LooseGridModel", "farOf", "(III)I"⟩, 18) := ⟨⟨by decide +kernel, by decide +kernel⟩, List.mem_of_getElem? (i := 640) (by decide +kernel), List.mem_of_getElem? (i := 865) (by decide +kernel), List.mem_of_getElem? (i := 866) (by decide +kernel)⟩
theorem lw_p40 : lw_okq (⟨"LooseGridModel", "nearestOf", "(IIII)I"⟩, 18) := ⟨⟨by decide +kernel, by decide +kernel⟩, List.mem_of_getElem? (i := 640) (by decide +kernel), List.mem_of_getElem? (i := 876) (by decide +kernel), List.mem_of_getElem? (i := 877) (by decide +kernel)⟩
theorem lw_p41 : lw_okq (⟨"LooseGridModel", "passes", "(II)Z"⟩, 18) := ⟨⟨by decide +kernel, by decide +kernel⟩, List.mem_of_getElem? (i := 640) (by decide +kernel), List.mem_of_getElem? (i := 880) (by decide +kernel), List.mem_of_getElem? (i := 881) (by decide +kernel)⟩
theorem lw_p42 : lw_okq (⟨"LooseGridModel", "steps", "(I)V"⟩, 18) := ⟨⟨by decide +kernel, by decide +kernel⟩, List.mem_of_getElem? (i := 640) (by decide +kernel), List.mem_of_getElem? (i := 897) (by decide +kernel), List.mem_of_getElem? (i := 898) (by decide +kernel)⟩
theorem lw_p43 : lw_okq (⟨"LooseGridModel", "axis", "(IIII)V"⟩, 18) := ⟨⟨by decide +kernel, by decide +kernel⟩, List.mem_of_getElem? (i := 640) (by decide +kernel), List.mem_of_getElem? (i := 901) (by decide +kernel), List.mem_of_getElem? (i := 902) (by decide +kernel)⟩
theorem lw_p44 : lw_okq (⟨"LooseGridModel", "onTold", "(I)I"⟩, 18) := ⟨⟨by decide +kernel, by decide +kernel⟩, List.mem_of_getElem? (i := 640) (by decide +kernel), List.mem_of_getElem? (i := 912) (by decide +kernel), List.mem_of_getElem? (i := 913) (by decide +kernel)⟩
theorem lw_p45 : lw_okq (⟨"LooseGridModel", "isSeen", "()Z"⟩, 18) := ⟨⟨by decide +kernel, by decide +kernel⟩, List.mem_of_getElem? (i := 640) (by decide +kernel), List.mem_of_getElem? (i := 928) (by decide +kernel), List.mem_of_getElem? (i := 929) (by decide +kernel)⟩
theorem lw_p46 : lw_okq (⟨"LooseGridModel", "does", "(II)V"⟩, 18) := ⟨⟨by decide +kernel, by decide +kernel⟩, List.mem_of_getElem? (i := 640) (by decide +kernel), List.mem_of_getElem? (i := 954) (by decide +kernel), List.mem_of_getElem? (i := 955) (by decide +kernel)⟩
def lw_privs_3 : List (MethodName × Nat) := [(⟨"LooseGridModel", "squaresOfAll", "()I"⟩, 18), (⟨"LooseGridModel", "squares", "(IIII)I"⟩, 18), (⟨"LooseGridModel", "pairs", "()I"⟩, 18), (⟨"LooseGridModel", "meet", "(I)I"⟩, 18), (⟨"LooseGridModel", "isPair", "(II)Z"⟩, 18), (⟨"LooseGridModel", "cellsTouched", "()I"⟩, 18), (⟨"LooseGridModel", "cellsOf", "(I)I"⟩, 18), (⟨"LooseGridModel", "farOf", "(III)I"⟩, 18), (⟨"LooseGridModel", "nearestOf", "(IIII)I"⟩, 18), (⟨"LooseGridModel", "passes", "(II)Z"⟩, 18), (⟨"LooseGridModel", "steps", "(I)V"⟩, 18), (⟨"LooseGridModel", "axis", "(IIII)V"⟩, 18), (⟨"LooseGridModel", "onTold", "(I)I"⟩, 18), (⟨"LooseGridModel", "isSeen", "()Z"⟩, 18), (⟨"LooseGridModel", "does", "(II)V"⟩, 18)]
theorem lw_r3 : ∀ q ∈ lw_privs_3, lw_okq q := List.forall_mem_cons.mpr ⟨lw_p32, List.forall_mem_cons.mpr ⟨lw_p33, List.forall_mem_cons.mpr ⟨lw_p34, List.forall_mem_cons.mpr ⟨lw_p35, List.forall_mem_cons.mpr ⟨lw_p36, List.forall_mem_cons.mpr ⟨lw_p37, List.forall_mem_cons.mpr ⟨lw_p38, List.forall_mem_cons.mpr ⟨lw_p39, List.forall_mem_cons.mpr ⟨lw_p40, List.forall_mem_cons.mpr ⟨lw_p41, List.forall_mem_cons.mpr ⟨lw_p42, List.forall_mem_cons.mpr ⟨lw_p43, List.forall_mem_cons.mpr ⟨lw_p44, List.forall_mem_cons.mpr ⟨lw_p45, List.forall_mem_cons.mpr ⟨lw_p46, fun _ h => absurd h List.not_mem_nil⟩⟩⟩⟩⟩⟩⟩⟩⟩⟩⟩⟩⟩⟩⟩
def lw_privs : List (MethodName × Nat) := lw_privs_1 ++ (lw_privs_2 ++ (lw_privs_3))
def lw_tbl : List Cond := k2_sels lw_privs ++ tables_1
theorem lw_privs_ok : ∀ q ∈ lw_privs, lw_okq q := by
  show ∀ q ∈ lw_privs_1 ++ (lw_privs_2 ++ (lw_privs_3)), lw_okq q
  exact List.forall_mem_append.mpr ⟨lw_r1, List.forall_mem_append.mpr ⟨lw_r2, lw_r3⟩⟩

-- names, printed
def RX0 : String := "LooseGrid$Box"
def TX0 : u_T := fun k => match k with
  | 0 => ("LooseGrid$Box", "kind", "I", false)
  | 1 => ("LooseGrid$Box", "layer", "I", false)
  | 2 => ("LooseGrid$Box", "x", "I", false)
  | 3 => ("LooseGrid$Box", "y", "I", false)
  | 4 => ("LooseGrid$Box", "width", "I", false)
  | 5 => ("LooseGrid$Box", "height", "I", false)
  | 6 => ("LooseGrid$Box", "vx", "I", false)
  | 7 => ("LooseGrid$Box", "vy", "I", false)
  | _ => ("LooseGrid$Box", "isThere", "Z", false)
def tyX0 : Nat → FieldType := fun k => match k with
  | 0 => .int
  | 1 => .int
  | 2 => .int
  | 3 => .int
  | 4 => .int
  | 5 => .int
  | 6 => .int
  | 7 => .int
  | _ => .boolean
abbrev wsX00 : List Cond := u_ws RX0 TX0 9
theorem nmX0 : ∀ a, a < 9 → ∀ b, b < 9 → a ≠ b → (TX0 a).2.1 ≠ (TX0 b).2.1 := by decide +kernel
theorem tyX0_ok : ∀ k, k < 9 → parseFieldDescriptor (TX0 k).2.2.1 = some (tyX0 k) := by decide +kernel
abbrev cX0_init : ByteArray := prog_2_method_1_code
def yX0_init : MethodName := ⟨RX0, "<init>", "()V"⟩
abbrev cX0_become : ByteArray := prog_2_method_2_code
def yX0_become : MethodName := ⟨RX0, "become", "(IIIIII)V"⟩
abbrev cX0_take : ByteArray := prog_2_method_3_code
def yX0_take : MethodName := ⟨RX0, "take", "(LLooseGrid$Box;)V"⟩
abbrev cX0_isOfKind : ByteArray := prog_2_method_4_code
def yX0_isOfKind : MethodName := ⟨RX0, "isOfKind", "(I)Z"⟩
abbrev cX0_step : ByteArray := prog_2_method_5_code
def yX0_step : MethodName := ⟨RX0, "step", "()V"⟩
abbrev cX0_stepToRim : ByteArray := prog_2_method_6_code
def yX0_stepToRim : MethodName := ⟨RX0, "stepToRim", "(II)V"⟩
abbrev cX0_covers : ByteArray := prog_2_method_7_code
def yX0_covers : MethodName := ⟨RX0, "covers", "(IIII)Z"⟩
abbrev cX0_touches : ByteArray := prog_2_method_8_code
def yX0_touches : MethodName := ⟨RX0, "touches", "(II)Z"⟩
abbrev cX0_cellsTouched : ByteArray := prog_2_method_9_code
def yX0_cellsTouched : MethodName := ⟨RX0, "cellsTouched", "()I"⟩
abbrev cX0_meets : ByteArray := prog_2_method_10_code
def yX0_meets : MethodName := ⟨RX0, "meets", "(LLooseGrid$Box;)Z"⟩
abbrev cX0_farFrom : ByteArray := prog_2_method_11_code
def yX0_farFrom : MethodName := ⟨RX0, "farFrom", "(II)I"⟩
abbrev cX0_gap : ByteArray := prog_2_method_12_code
def yX0_gap : MethodName := ⟨RX0, "gap", "(III)I"⟩
abbrev cX0_passes : ByteArray := prog_2_method_13_code
def yX0_passes : MethodName := ⟨RX0, "passes", "(I)Z"⟩
abbrev cX0_wholeIndex : ByteArray := prog_2_method_14_code
def yX0_wholeIndex : MethodName := ⟨RX0, "wholeIndex", "(I)I"⟩
abbrev cX0_digit : ByteArray := prog_2_method_15_code
def yX0_digit : MethodName := ⟨RX0, "digit", "(I)I"⟩
def RX1 : String := "LooseGrid$Reader"
def TX1 : u_T := fun k => match k with
  | 0 => ("LooseGrid$Reader", "text", "[B", true)
  | 1 => ("LooseGrid$Reader", "rows", "[[I", true)
  | 2 => ("LooseGrid$Reader", "length", "I", false)
  | 3 => ("LooseGrid$Reader", "clauses", "I", false)
  | 4 => ("LooseGrid$Reader", "at", "I", false)
  | _ => ("LooseGrid$Reader", "fault", "I", false)
def tyX1 : Nat → FieldType := fun k => match k with
  | 0 => .array .byte
  | 1 => .array (.array .int)
  | 2 => .int
  | 3 => .int
  | 4 => .int
  | _ => .int
abbrev wsX10 : List Cond := u_ws RX1 TX1 6
theorem nmX1 : ∀ a, a < 6 → ∀ b, b < 6 → a ≠ b → (TX1 a).2.1 ≠ (TX1 b).2.1 := by decide +kernel
theorem tyX1_ok : ∀ k, k < 6 → parseFieldDescriptor (TX1 k).2.2.1 = some (tyX1 k) := by decide +kernel
abbrev cX1_init : ByteArray := prog_3_method_1_code
def yX1_init : MethodName := ⟨RX1, "<init>", "()V"⟩
abbrev cX1_append : ByteArray := prog_3_method_2_code
def yX1_append : MethodName := ⟨RX1, "append", "(I)Z"⟩
abbrev cX1_parse : ByteArray := prog_3_method_3_code
def yX1_parse : MethodName := ⟨RX1, "parse", "()I"⟩
abbrev cX1_parseClause : ByteArray := prog_3_method_4_code
def yX1_parseClause : MethodName := ⟨RX1, "parseClause", "([I)V"⟩
abbrev cX1_signHere : ByteArray := prog_3_method_5_code
def yX1_signHere : MethodName := ⟨RX1, "signHere", "()I"⟩
abbrev cX1_fail : ByteArray := prog_3_method_6_code
def yX1_fail : MethodName := ⟨RX1, "fail", "(I)V"⟩
abbrev cX1_parseSign : ByteArray := prog_3_method_7_code
def yX1_parseSign : MethodName := ⟨RX1, "parseSign", "(C)V"⟩
abbrev cX1_parseKind : ByteArray := prog_3_method_8_code
def yX1_parseKind : MethodName := ⟨RX1, "parseKind", "()I"⟩
abbrev cX1_kindOf : ByteArray := prog_3_method_9_code
def yX1_kindOf : MethodName := ⟨RX1, "kindOf", "(I)I"⟩
abbrev cX1_parseNumber : ByteArray := prog_3_method_10_code
def yX1_parseNumber : MethodName := ⟨RX1, "parseNumber", "(III)I"⟩
abbrev cX1_parseSpeed : ByteArray := prog_3_method_11_code
def yX1_parseSpeed : MethodName := ⟨RX1, "parseSpeed", "()I"⟩
def RX2 : String := "LooseGrid$Rows"
def TX2 : u_T := fun k => match k with
  | 0 => ("LooseGrid$Rows", "values", "[I", true)
  | 1 => ("LooseGrid$Rows", "limit", "I", true)
  | _ => ("LooseGrid$Rows", "size", "I", false)
def tyX2 : Nat → FieldType := fun k => match k with
  | 0 => .array .int
  | 1 => .int
  | _ => .int
abbrev wsX20 : List Cond := u_ws RX2 TX2 3
theorem nmX2 : ∀ a, a < 3 → ∀ b, b < 3 → a ≠ b → (TX2 a).2.1 ≠ (TX2 b).2.1 := by decide +kernel
theorem tyX2_ok : ∀ k, k < 3 → parseFieldDescriptor (TX2 k).2.2.1 = some (tyX2 k) := by decide +kernel
abbrev cX2_init : ByteArray := prog_4_method_1_code
def yX2_init : MethodName := ⟨RX2, "<init>", "(I)V"⟩
abbrev cX2_empty : ByteArray := prog_4_method_2_code
def yX2_empty : MethodName := ⟨RX2, "empty", "()I"⟩
abbrev cX2_append : ByteArray := prog_4_method_3_code
def yX2_append : MethodName := ⟨RX2, "append", "(III)I"⟩
abbrev cX2_value : ByteArray := prog_4_method_4_code
def yX2_value : MethodName := ⟨RX2, "value", "(II)I"⟩
abbrev cX2_take : ByteArray := prog_4_method_5_code
def yX2_take : MethodName := ⟨RX2, "take", "(LLooseGrid$Rows;)V"⟩
def RX3 : String := "LooseGrid$Tape"
def TX3 : u_T := fun k => match k with
  | 0 => ("LooseGrid$Tape", "items", "[J", true)
  | 1 => ("LooseGrid$Tape", "sort", "I", false)
  | _ => ("LooseGrid$Tape", "length", "I", false)
def tyX3 : Nat → FieldType := fun k => match k with
  | 0 => .array .long
  | 1 => .int
  | _ => .int
abbrev wsX30 : List Cond := u_ws RX3 TX3 3
theorem nmX3 : ∀ a, a < 3 → ∀ b, b < 3 → a ≠ b → (TX3 a).2.1 ≠ (TX3 b).2.1 := by decide +kernel
theorem tyX3_ok : ∀ k, k < 3 → parseFieldDescriptor (TX3 k).2.2.1 = some (tyX3 k) := by decide +kernel
abbrev cX3_init : ByteArray := prog_5_method_1_code
def yX3_init : MethodName := ⟨RX3, "<init>", "()V"⟩
abbrev cX3_hold : ByteArray := prog_5_method_2_code
def yX3_hold : MethodName := ⟨RX3, "hold", "(II)V"⟩
abbrev cX3_lowestBits : ByteArray := prog_5_method_3_code
def yX3_lowestBits : MethodName := ⟨RX3, "lowestBits", "(J)J"⟩
def RX4 : String := "LooseGrid$World"
def TX4 : u_T := fun k => match k with
  | 0 => ("LooseGrid$World", "box", "[LLooseGrid$Box;", true)
  | 1 => ("LooseGrid$World", "tally", "[I", true)
  | 2 => ("LooseGrid$World", "seen", "LLooseGrid$Rows;", true)
  | 3 => ("LooseGrid$World", "plan", "LLooseGrid$Rows;", true)
  | 4 => ("LooseGrid$World", "book", "LLooseGrid$Rows;", true)
  | 5 => ("LooseGrid$World", "came", "I", false)
  | 6 => ("LooseGrid$World", "time", "I", false)
  | _ => ("LooseGrid$World", "room", "I", false)
def tyX4 : Nat → FieldType := fun k => match k with
  | 0 => .array (.object "LooseGrid$Box")
  | 1 => .array .int
  | 2 => .object "LooseGrid$Rows"
  | 3 => .object "LooseGrid$Rows"
  | 4 => .object "LooseGrid$Rows"
  | 5 => .int
  | 6 => .int
  | _ => .int
abbrev wsX40 : List Cond := u_ws RX4 TX4 8
theorem nmX4 : ∀ a, a < 8 → ∀ b, b < 8 → a ≠ b → (TX4 a).2.1 ≠ (TX4 b).2.1 := by decide +kernel
theorem tyX4_ok : ∀ k, k < 8 → parseFieldDescriptor (TX4 k).2.2.1 = some (tyX4 k) := by decide +kernel
abbrev cX4_init : ByteArray := prog_6_method_1_code
def yX4_init : MethodName := ⟨RX4, "<init>", "()V"⟩
abbrev cX4_takeBoxes : ByteArray := prog_6_method_2_code
def yX4_takeBoxes : MethodName := ⟨RX4, "takeBoxes", "(LLooseGrid$World;)V"⟩
abbrev cX4_takeAll : ByteArray := prog_6_method_3_code
def yX4_takeAll : MethodName := ⟨RX4, "takeAll", "(LLooseGrid$World;)V"⟩
abbrev cX4_find : ByteArray := prog_6_method_4_code
def yX4_find : MethodName := ⟨RX4, "find", "(I)LLooseGrid$Box;"⟩
abbrev cX4_nextBox : ByteArray := prog_6_method_5_code
def yX4_nextBox : MethodName := ⟨RX4, "nextBox", "()LLooseGrid$Box;"⟩
abbrev cX4_present : ByteArray := prog_6_method_6_code
def yX4_present : MethodName := ⟨RX4, "present", "()I"⟩
abbrev cX4_area : ByteArray := prog_6_method_7_code
def yX4_area : MethodName := ⟨RX4, "area", "()I"⟩
abbrev cX4_step : ByteArray := prog_6_method_8_code
def yX4_step : MethodName := ⟨RX4, "step", "()V"⟩
abbrev cX4_wholeIn : ByteArray := prog_6_method_9_code
def yX4_wholeIn : MethodName := ⟨RX4, "wholeIn", "(II)I"⟩
abbrev cX4_isSplit : ByteArray := prog_6_method_10_code
def yX4_isSplit : MethodName := ⟨RX4, "isSplit", "(II)Z"⟩
abbrev cX4_pathOf : ByteArray := prog_6_method_11_code
def yX4_pathOf : MethodName := ⟨RX4, "pathOf", "(LLooseGrid$Box;)I"⟩
abbrev cX4_isSquare : ByteArray := prog_6_method_12_code
def yX4_isSquare : MethodName := ⟨RX4, "isSquare", "(I)Z"⟩
abbrev cX4_isIn : ByteArray := prog_6_method_13_code
def yX4_isIn : MethodName := ⟨RX4, "isIn", "(LLooseGrid$Box;IIZ)Z"⟩
abbrev cX4_inSquare : ByteArray := prog_6_method_14_code
def yX4_inSquare : MethodName := ⟨RX4, "inSquare", "(II)I"⟩
abbrev cX4_leastIn : ByteArray := prog_6_method_15_code
def yX4_leastIn : MethodName := ⟨RX4, "leastIn", "(II)I"⟩
abbrev cX4_splitAt : ByteArray := prog_6_method_16_code
def yX4_splitAt : MethodName := ⟨RX4, "splitAt", "(I)I"⟩
abbrev cX4_squares : ByteArray := prog_6_method_17_code
def yX4_squares : MethodName := ⟨RX4, "squares", "()I"⟩
abbrev cX4_greatestDepth : ByteArray := prog_6_method_18_code
def yX4_greatestDepth : MethodName := ⟨RX4, "greatestDepth", "()I"⟩
abbrev cX4_touching : ByteArray := prog_6_method_19_code
def yX4_touching : MethodName := ⟨RX4, "touching", "(II)I"⟩
abbrev cX4_touchingNumber : ByteArray := prog_6_method_20_code
def yX4_touchingNumber : MethodName := ⟨RX4, "touchingNumber", "(III)I"⟩
abbrev cX4_cellsTouched : ByteArray := prog_6_method_21_code
def yX4_cellsTouched : MethodName := ⟨RX4, "cellsTouched", "()I"⟩
abbrev cX4_nearestNumber : ByteArray := prog_6_method_22_code
def yX4_nearestNumber : MethodName := ⟨RX4, "nearestNumber", "(IIII)I"⟩
abbrev cX4_nextNearest : ByteArray := prog_6_method_23_code
def yX4_nextNearest : MethodName := ⟨RX4, "nextNearest", "(IIII)I"⟩
abbrev cX4_within : ByteArray := prog_6_method_24_code
def yX4_within : MethodName := ⟨RX4, "within", "(IIII)J"⟩
abbrev cX4_meetings : ByteArray := prog_6_method_25_code
def yX4_meetings : MethodName := ⟨RX4, "meetings", "(LLooseGrid$Box;)I"⟩
abbrev cX4_pairs : ByteArray := prog_6_method_26_code
def yX4_pairs : MethodName := ⟨RX4, "pairs", "()I"⟩
abbrev cX4_pairNumber : ByteArray := prog_6_method_27_code
def yX4_pairNumber : MethodName := ⟨RX4, "pairNumber", "(I)I"⟩
def RX5 : String := "LooseGrid"
def TX5 : u_T := fun k => match k with
  | 0 => ("LooseGrid", "now", "LLooseGrid$World;", true)
  | 1 => ("LooseGrid", "kept", "LLooseGrid$World;", true)
  | 2 => ("LooseGrid", "trial", "LLooseGrid$World;", true)
  | 3 => ("LooseGrid", "isKept", "Z", false)
  | 4 => ("LooseGrid", "reader", "LLooseGrid$Reader;", true)
  | _ => ("LooseGrid", "tapes", "[LLooseGrid$Tape;", true)
def tyX5 : Nat → FieldType := fun k => match k with
  | 0 => .object "LooseGrid$World"
  | 1 => .object "LooseGrid$World"
  | 2 => .object "LooseGrid$World"
  | 3 => .boolean
  | 4 => .object "LooseGrid$Reader"
  | _ => .array (.object "LooseGrid$Tape")
abbrev wsX50 : List Cond := u_ws RX5 TX5 6
theorem nmX5 : ∀ a, a < 6 → ∀ b, b < 6 → a ≠ b → (TX5 a).2.1 ≠ (TX5 b).2.1 := by decide +kernel
theorem tyX5_ok : ∀ k, k < 6 → parseFieldDescriptor (TX5 k).2.2.1 = some (tyX5 k) := by decide +kernel
abbrev cX5_init : ByteArray := prog_1_method_1_code
def yX5_init : MethodName := ⟨RX5, "<init>", "()V"⟩
abbrev cX5_box : ByteArray := prog_1_method_2_code
def yX5_box : MethodName := ⟨RX5, "box", "(IIIIII)I"⟩
abbrev cX5_speed : ByteArray := prog_1_method_3_code
def yX5_speed : MethodName := ⟨RX5, "speed", "(III)I"⟩
abbrev cX5_move : ByteArray := prog_1_method_4_code
def yX5_move : MethodName := ⟨RX5, "move", "(III)I"⟩
abbrev cX5_drop : ByteArray := prog_1_method_5_code
def yX5_drop : MethodName := ⟨RX5, "drop", "(I)I"⟩
abbrev cX5_room : ByteArray := prog_1_method_6_code
def yX5_room : MethodName := ⟨RX5, "room", "(I)I"⟩
abbrev cX5_feed : ByteArray := prog_1_method_7_code
def yX5_feed : MethodName := ⟨RX5, "feed", "(I)I"⟩
abbrev cX5_boxes : ByteArray := prog_1_method_8_code
def yX5_boxes : MethodName := ⟨RX5, "boxes", "()I"⟩
abbrev cX5_letIn : ByteArray := prog_1_method_9_code
def yX5_letIn : MethodName := ⟨RX5, "letIn", "([I)V"⟩
abbrev cX5_of : ByteArray := prog_1_method_10_code
def yX5_of : MethodName := ⟨RX5, "of", "(II)I"⟩
abbrev cX5_square : ByteArray := prog_1_method_11_code
def yX5_square : MethodName := ⟨RX5, "square", "(II)I"⟩
abbrev cX5_cell : ByteArray := prog_1_method_12_code
def yX5_cell : MethodName := ⟨RX5, "cell", "(III)I"⟩
abbrev cX5_told : ByteArray := prog_1_method_13_code
def yX5_told : MethodName := ⟨RX5, "told", "(I)I"⟩
abbrev cX5_far : ByteArray := prog_1_method_14_code
def yX5_far : MethodName := ⟨RX5, "far", "(III)I"⟩
abbrev cX5_nearest : ByteArray := prog_1_method_15_code
def yX5_nearest : MethodName := ⟨RX5, "nearest", "(IIII)I"⟩
abbrev cX5_window : ByteArray := prog_1_method_16_code
def yX5_window : MethodName := ⟨RX5, "window", "(IIII)J"⟩
abbrev cX5_pair : ByteArray := prog_1_method_17_code
def yX5_pair : MethodName := ⟨RX5, "pair", "(I)I"⟩
abbrev cX5_pass : ByteArray := prog_1_method_18_code
def yX5_pass : MethodName := ⟨RX5, "pass", "(I)I"⟩
abbrev cX5_on : ByteArray := prog_1_method_19_code
def yX5_on : MethodName := ⟨RX5, "on", "(II)I"⟩
abbrev cX5_onTrial : ByteArray := prog_1_method_20_code
def yX5_onTrial : MethodName := ⟨RX5, "onTrial", "(ILLooseGrid$Box;)I"⟩
abbrev cX5_first : ByteArray := prog_1_method_21_code
def yX5_first : MethodName := ⟨RX5, "first", "(II)I"⟩
abbrev cX5_firstMeeting : ByteArray := prog_1_method_22_code
def yX5_firstMeeting : MethodName := ⟨RX5, "firstMeeting", "(LLooseGrid$Box;LLooseGrid$Box;)I"⟩
abbrev cX5_see : ByteArray := prog_1_method_23_code
def yX5_see : MethodName := ⟨RX5, "see", "(III)I"⟩
abbrev cX5_speeds : ByteArray := prog_1_method_24_code
def yX5_speeds : MethodName := ⟨RX5, "speeds", "(II)I"⟩
abbrev cX5_wouldBeSeen : ByteArray := prog_1_method_25_code
def yX5_wouldBeSeen : MethodName := ⟨RX5, "wouldBeSeen", "(II)Z"⟩
abbrev cX5_odds : ByteArray := prog_1_method_26_code
def yX5_odds : MethodName := ⟨RX5, "odds", "(II)J"⟩
abbrev cX5_mean : ByteArray := prog_1_method_27_code
def yX5_mean : MethodName := ⟨RX5, "mean", "(I)J"⟩
abbrev cX5_plan : ByteArray := prog_1_method_28_code
def yX5_plan : MethodName := ⟨RX5, "plan", "(II)I"⟩
abbrev cX5_ends : ByteArray := prog_1_method_29_code
def yX5_ends : MethodName := ⟨RX5, "ends", "(I)I"⟩
abbrev cX5_carryOut : ByteArray := prog_1_method_30_code
def yX5_carryOut : MethodName := ⟨RX5, "carryOut", "(II)V"⟩
abbrev cX5_book : ByteArray := prog_1_method_31_code
def yX5_book : MethodName := ⟨RX5, "book", "(II)I"⟩
abbrev cX5_looked : ByteArray := prog_1_method_32_code
def yX5_looked : MethodName := ⟨RX5, "looked", "()I"⟩
abbrev cX5_judge : ByteArray := prog_1_method_33_code
def yX5_judge : MethodName := ⟨RX5, "judge", "(II)I"⟩
abbrev cX5_image : ByteArray := prog_1_method_34_code
def yX5_image : MethodName := ⟨RX5, "image", "()I"⟩
abbrev cX5_undo : ByteArray := prog_1_method_35_code
def yX5_undo : MethodName := ⟨RX5, "undo", "()I"⟩
abbrev cX5_taken : ByteArray := prog_1_method_36_code
def yX5_taken : MethodName := ⟨RX5, "taken", "(II)I"⟩
abbrev cX5_count : ByteArray := prog_1_method_37_code
def yX5_count : MethodName := ⟨RX5, "count", "(I)I"⟩
abbrev cX5_tape : ByteArray := prog_1_method_38_code
def yX5_tape : MethodName := ⟨RX5, "tape", "(III)I"⟩
abbrev cX5_item : ByteArray := prog_1_method_39_code
def yX5_item : MethodName := ⟨RX5, "item", "(IIJ)I"⟩
abbrev cX5_read : ByteArray := prog_1_method_40_code
def yX5_read : MethodName := ⟨RX5, "read", "(II)J"⟩
abbrev cX5_shift : ByteArray := prog_1_method_41_code
def yX5_shift : MethodName := ⟨RX5, "shift", "(IIIII)I"⟩
abbrev cX5_findTape : ByteArray := prog_1_method_42_code
def yX5_findTape : MethodName := ⟨RX5, "findTape", "(I)LLooseGrid$Tape;"⟩
abbrev cX5_isWithin : ByteArray := prog_1_method_43_code
def yX5_isWithin : MethodName := ⟨RX5, "isWithin", "(III)Z"⟩
abbrev cX5_isPlace : ByteArray := prog_1_method_44_code
def yX5_isPlace : MethodName := ⟨RX5, "isPlace", "(II)Z"⟩
abbrev cX5_isOnPlane : ByteArray := prog_1_method_45_code
def yX5_isOnPlane : MethodName := ⟨RX5, "isOnPlane", "(IIII)Z"⟩
abbrev cX5_depthOf : ByteArray := prog_1_method_46_code
def yX5_depthOf : MethodName := ⟨RX5, "depthOf", "(I)I"⟩
abbrev cX5_indexOf : ByteArray := prog_1_method_47_code
def yX5_indexOf : MethodName := ⟨RX5, "indexOf", "(I)I"⟩
abbrev cX5_partOfFraction : ByteArray := prog_1_method_48_code
def yX5_partOfFraction : MethodName := ⟨RX5, "partOfFraction", "(III)J"⟩
abbrev cX5_greatestDivisor : ByteArray := prog_1_method_49_code
def yX5_greatestDivisor : MethodName := ⟨RX5, "greatestDivisor", "(II)I"⟩
def RX6 : String := "LooseGridModel"
def TX6 : u_T := fun k => match k with
  | 0 => ("LooseGridModel", "g", "[I", true)
  | 1 => ("LooseGridModel", "saved", "[I", true)
  | 2 => ("LooseGridModel", "kept", "[I", true)
  | 3 => ("LooseGridModel", "isKept", "Z", false)
  | 4 => ("LooseGridModel", "text", "[I", true)
  | 5 => ("LooseGridModel", "textMany", "I", false)
  | 6 => ("LooseGridModel", "tapeSort", "[I", true)
  | 7 => ("LooseGridModel", "tapeSize", "[I", true)
  | 8 => ("LooseGridModel", "tapes", "[[J", true)
  | 9 => ("LooseGridModel", "moved", "[J", true)
  | 10 => ("LooseGridModel", "spot", "I", false)
  | 11 => ("LooseGridModel", "fault", "I", false)
  | 12 => ("LooseGridModel", "told", "[I", true)
  | 13 => ("LooseGridModel", "cornerX", "I", false)
  | 14 => ("LooseGridModel", "cornerY", "I", false)
  | 15 => ("LooseGridModel", "side", "I", false)
  | 16 => ("LooseGridModel", "greatest", "I", false)
  | _ => ("LooseGridModel", "kept2", "[I", true)
def tyX6 : Nat → FieldType := fun k => match k with
  | 0 => .array .int
  | 1 => .array .int
  | 2 => .array .int
  | 3 => .boolean
  | 4 => .array .int
  | 5 => .int
  | 6 => .array .int
  | 7 => .array .int
  | 8 => .array (.array .long)
  | 9 => .array .long
  | 10 => .int
  | 11 => .int
  | 12 => .array .int
  | 13 => .int
  | 14 => .int
  | 15 => .int
  | 16 => .int
  | _ => .array .int
abbrev wsX60 : List Cond := u_ws RX6 TX6 18
theorem nmX6 : ∀ a, a < 18 → ∀ b, b < 18 → a ≠ b → (TX6 a).2.1 ≠ (TX6 b).2.1 := by decide +kernel
theorem tyX6_ok : ∀ k, k < 18 → parseFieldDescriptor (TX6 k).2.2.1 = some (tyX6 k) := by decide +kernel
abbrev cX6_init : ByteArray := prog_8_method_1_code
def yX6_init : MethodName := ⟨RX6, "<init>", "()V"⟩
abbrev cX6_in : ByteArray := prog_8_method_2_code
def yX6_in : MethodName := ⟨RX6, "in", "(III)Z"⟩
abbrev cX6_copy : ByteArray := prog_8_method_3_code
def yX6_copy : MethodName := ⟨RX6, "copy", "([I[I)V"⟩
abbrev cX6_at : ByteArray := prog_8_method_4_code
def yX6_at : MethodName := ⟨RX6, "at", "(II)I"⟩
abbrev cX6_sets : ByteArray := prog_8_method_5_code
def yX6_sets : MethodName := ⟨RX6, "sets", "(III)V"⟩
abbrev cX6_isBox : ByteArray := prog_8_method_6_code
def yX6_isBox : MethodName := ⟨RX6, "isBox", "(I)Z"⟩
abbrev cX6_isPoint : ByteArray := prog_8_method_7_code
def yX6_isPoint : MethodName := ⟨RX6, "isPoint", "(II)Z"⟩
abbrev cX6_fits : ByteArray := prog_8_method_8_code
def yX6_fits : MethodName := ⟨RX6, "fits", "(IIII)Z"⟩
abbrev cX6_there : ByteArray := prog_8_method_9_code
def yX6_there : MethodName := ⟨RX6, "there", "()I"⟩
abbrev cX6_comes : ByteArray := prog_8_method_10_code
def yX6_comes : MethodName := ⟨RX6, "comes", "(IIIIII)I"⟩
abbrev cX6_box : ByteArray := prog_8_method_11_code
def yX6_box : MethodName := ⟨RX6, "box", "(IIIIII)I"⟩
abbrev cX6_speed : ByteArray := prog_8_method_12_code
def yX6_speed : MethodName := ⟨RX6, "speed", "(III)I"⟩
abbrev cX6_move : ByteArray := prog_8_method_13_code
def yX6_move : MethodName := ⟨RX6, "move", "(III)I"⟩
abbrev cX6_drop : ByteArray := prog_8_method_14_code
def yX6_drop : MethodName := ⟨RX6, "drop", "(I)I"⟩
abbrev cX6_room : ByteArray := prog_8_method_15_code
def yX6_room : MethodName := ⟨RX6, "room", "(I)I"⟩
abbrev cX6_feed : ByteArray := prog_8_method_16_code
def yX6_feed : MethodName := ⟨RX6, "feed", "(I)I"⟩
abbrev cX6_sees : ByteArray := prog_8_method_17_code
def yX6_sees : MethodName := ⟨RX6, "sees", "(II)Z"⟩
abbrev cX6_must : ByteArray := prog_8_method_18_code
def yX6_must : MethodName := ⟨RX6, "must", "(II)I"⟩
abbrev cX6_number : ByteArray := prog_8_method_19_code
def yX6_number : MethodName := ⟨RX6, "number", "(III)I"⟩
abbrev cX6_kindHere : ByteArray := prog_8_method_20_code
def yX6_kindHere : MethodName := ⟨RX6, "kindHere", "()I"⟩
abbrev cX6_speedHere : ByteArray := prog_8_method_21_code
def yX6_speedHere : MethodName := ⟨RX6, "speedHere", "()I"⟩
abbrev cX6_clause : ByteArray := prog_8_method_22_code
def yX6_clause : MethodName := ⟨RX6, "clause", "(I)V"⟩
abbrev cX6_boxes : ByteArray := prog_8_method_23_code
def yX6_boxes : MethodName := ⟨RX6, "boxes", "()I"⟩
abbrev cX6_isWhole : ByteArray := prog_8_method_24_code
def yX6_isWhole : MethodName := ⟨RX6, "isWhole", "(IIII)Z"⟩
abbrev cX6_wholeIn : ByteArray := prog_8_method_25_code
def yX6_wholeIn : MethodName := ⟨RX6, "wholeIn", "(III)I"⟩
abbrev cX6_isSplit : ByteArray := prog_8_method_26_code
def yX6_isSplit : MethodName := ⟨RX6, "isSplit", "(III)Z"⟩
abbrev cX6_looksAt : ByteArray := prog_8_method_27_code
def yX6_looksAt : MethodName := ⟨RX6, "looksAt", "(I)Z"⟩
abbrev cX6_pathOf : ByteArray := prog_8_method_28_code
def yX6_pathOf : MethodName := ⟨RX6, "pathOf", "(I)I"⟩
abbrev cX6_depthOf : ByteArray := prog_8_method_29_code
def yX6_depthOf : MethodName := ⟨RX6, "depthOf", "(I)I"⟩
abbrev cX6_squares : ByteArray := prog_8_method_30_code
def yX6_squares : MethodName := ⟨RX6, "squares", "(IIII)I"⟩
abbrev cX6_squaresOfAll : ByteArray := prog_8_method_31_code
def yX6_squaresOfAll : MethodName := ⟨RX6, "squaresOfAll", "()I"⟩
abbrev cX6_square : ByteArray := prog_8_method_32_code
def yX6_square : MethodName := ⟨RX6, "square", "(II)I"⟩
abbrev cX6_covers : ByteArray := prog_8_method_33_code
def yX6_covers : MethodName := ⟨RX6, "covers", "(IIIII)Z"⟩
abbrev cX6_touches : ByteArray := prog_8_method_34_code
def yX6_touches : MethodName := ⟨RX6, "touches", "(III)Z"⟩
abbrev cX6_cellsOf : ByteArray := prog_8_method_35_code
def yX6_cellsOf : MethodName := ⟨RX6, "cellsOf", "(I)I"⟩
abbrev cX6_cell : ByteArray := prog_8_method_36_code
def yX6_cell : MethodName := ⟨RX6, "cell", "(III)I"⟩
abbrev cX6_isPair : ByteArray := prog_8_method_37_code
def yX6_isPair : MethodName := ⟨RX6, "isPair", "(II)Z"⟩
abbrev cX6_meet : ByteArray := prog_8_method_38_code
def yX6_meet : MethodName := ⟨RX6, "meet", "(I)I"⟩
abbrev cX6_pairs : ByteArray := prog_8_method_39_code
def yX6_pairs : MethodName := ⟨RX6, "pairs", "()I"⟩
abbrev cX6_cellsTouched : ByteArray := prog_8_method_40_code
def yX6_cellsTouched : MethodName := ⟨RX6, "cellsTouched", "()I"⟩
abbrev cX6_told : ByteArray := prog_8_method_41_code
def yX6_told : MethodName := ⟨RX6, "told", "(I)I"⟩
abbrev cX6_of : ByteArray := prog_8_method_42_code
def yX6_of : MethodName := ⟨RX6, "of", "(II)I"⟩
abbrev cX6_away : ByteArray := prog_8_method_43_code
def yX6_away : MethodName := ⟨RX6, "away", "(III)I"⟩
abbrev cX6_farOf : ByteArray := prog_8_method_44_code
def yX6_farOf : MethodName := ⟨RX6, "farOf", "(III)I"⟩
abbrev cX6_far : ByteArray := prog_8_method_45_code
def yX6_far : MethodName := ⟨RX6, "far", "(III)I"⟩
abbrev cX6_passes : ByteArray := prog_8_method_46_code
def yX6_passes : MethodName := ⟨RX6, "passes", "(II)Z"⟩
abbrev cX6_nearestOf : ByteArray := prog_8_method_47_code
def yX6_nearestOf : MethodName := ⟨RX6, "nearestOf", "(IIII)I"⟩
abbrev cX6_nearest : ByteArray := prog_8_method_48_code
def yX6_nearest : MethodName := ⟨RX6, "nearest", "(IIII)I"⟩
abbrev cX6_window : ByteArray := prog_8_method_49_code
def yX6_window : MethodName := ⟨RX6, "window", "(IIII)J"⟩
abbrev cX6_pair : ByteArray := prog_8_method_50_code
def yX6_pair : MethodName := ⟨RX6, "pair", "(I)I"⟩
abbrev cX6_axis : ByteArray := prog_8_method_51_code
def yX6_axis : MethodName := ⟨RX6, "axis", "(IIII)V"⟩
abbrev cX6_steps : ByteArray := prog_8_method_52_code
def yX6_steps : MethodName := ⟨RX6, "steps", "(I)V"⟩
abbrev cX6_pass : ByteArray := prog_8_method_53_code
def yX6_pass : MethodName := ⟨RX6, "pass", "(I)I"⟩
abbrev cX6_onTold : ByteArray := prog_8_method_54_code
def yX6_onTold : MethodName := ⟨RX6, "onTold", "(I)I"⟩
abbrev cX6_on : ByteArray := prog_8_method_55_code
def yX6_on : MethodName := ⟨RX6, "on", "(II)I"⟩
abbrev cX6_first : ByteArray := prog_8_method_56_code
def yX6_first : MethodName := ⟨RX6, "first", "(II)I"⟩
abbrev cX6_see : ByteArray := prog_8_method_57_code
def yX6_see : MethodName := ⟨RX6, "see", "(III)I"⟩
abbrev cX6_isSeen : ByteArray := prog_8_method_58_code
def yX6_isSeen : MethodName := ⟨RX6, "isSeen", "()Z"⟩
abbrev cX6_speeds : ByteArray := prog_8_method_59_code
def yX6_speeds : MethodName := ⟨RX6, "speeds", "(II)I"⟩
abbrev cX6_common : ByteArray := prog_8_method_60_code
def yX6_common : MethodName := ⟨RX6, "common", "(II)I"⟩
abbrev cX6_part : ByteArray := prog_8_method_61_code
def yX6_part : MethodName := ⟨RX6, "part", "(III)J"⟩
abbrev cX6_odds : ByteArray := prog_8_method_62_code
def yX6_odds : MethodName := ⟨RX6, "odds", "(II)J"⟩
abbrev cX6_mean : ByteArray := prog_8_method_63_code
def yX6_mean : MethodName := ⟨RX6, "mean", "(I)J"⟩
abbrev cX6_plan : ByteArray := prog_8_method_64_code
def yX6_plan : MethodName := ⟨RX6, "plan", "(II)I"⟩
abbrev cX6_does : ByteArray := prog_8_method_65_code
def yX6_does : MethodName := ⟨RX6, "does", "(II)V"⟩
abbrev cX6_ends : ByteArray := prog_8_method_66_code
def yX6_ends : MethodName := ⟨RX6, "ends", "(I)I"⟩
abbrev cX6_book : ByteArray := prog_8_method_67_code
def yX6_book : MethodName := ⟨RX6, "book", "(II)I"⟩
abbrev cX6_looked : ByteArray := prog_8_method_68_code
def yX6_looked : MethodName := ⟨RX6, "looked", "()I"⟩
abbrev cX6_isTape : ByteArray := prog_8_method_69_code
def yX6_isTape : MethodName := ⟨RX6, "isTape", "(I)Z"⟩
abbrev cX6_judge : ByteArray := prog_8_method_70_code
def yX6_judge : MethodName := ⟨RX6, "judge", "(II)I"⟩
abbrev cX6_image : ByteArray := prog_8_method_71_code
def yX6_image : MethodName := ⟨RX6, "image", "()I"⟩
abbrev cX6_undo : ByteArray := prog_8_method_72_code
def yX6_undo : MethodName := ⟨RX6, "undo", "()I"⟩
abbrev cX6_taken : ByteArray := prog_8_method_73_code
def yX6_taken : MethodName := ⟨RX6, "taken", "(II)I"⟩
abbrev cX6_count : ByteArray := prog_8_method_74_code
def yX6_count : MethodName := ⟨RX6, "count", "(I)I"⟩
abbrev cX6_tape : ByteArray := prog_8_method_75_code
def yX6_tape : MethodName := ⟨RX6, "tape", "(III)I"⟩
abbrev cX6_fit : ByteArray := prog_8_method_76_code
def yX6_fit : MethodName := ⟨RX6, "fit", "(IJ)J"⟩
abbrev cX6_item : ByteArray := prog_8_method_77_code
def yX6_item : MethodName := ⟨RX6, "item", "(IIJ)I"⟩
abbrev cX6_read : ByteArray := prog_8_method_78_code
def yX6_read : MethodName := ⟨RX6, "read", "(II)J"⟩
abbrev cX6_shift : ByteArray := prog_8_method_79_code
def yX6_shift : MethodName := ⟨RX6, "shift", "(IIIII)I"⟩
def RJ9 : String := "java/lang/Math"
def TJ9 : u_T := fun k => match k with
  | _ => ("", "", "", false)
def tyJ9 : Nat → FieldType := fun k => match k with
  | _ => .int
abbrev wsJ90 : List Cond := u_ws RJ9 TJ9 0
theorem nmJ9 : ∀ a, a < 0 → ∀ b, b < 0 → a ≠ b → (TJ9 a).2.1 ≠ (TJ9 b).2.1 := by decide +kernel
theorem tyJ9_ok : ∀ k, k < 0 → parseFieldDescriptor (TJ9 k).2.2.1 = some (tyJ9 k) := by decide +kernel
abbrev cJ9_floorMod_7cf53 : ByteArray := prog_9_method_50_code
def yJ9_floorMod_7cf53 : MethodName := ⟨RJ9, "floorMod", "(II)I"⟩
abbrev cJ9_max_7cf53 : ByteArray := prog_9_method_65_code
def yJ9_max_7cf53 : MethodName := ⟨RJ9, "max", "(II)I"⟩
abbrev cJ9_min_7cf53 : ByteArray := prog_9_method_69_code
def yJ9_min_7cf53 : MethodName := ⟨RJ9, "min", "(II)I"⟩
def RJ10 : String := "java/lang/System"
def TJ10 : u_T := fun k => match k with
  | _ => ("", "", "", false)
def tyJ10 : Nat → FieldType := fun k => match k with
  | _ => .int
abbrev wsJ100 : List Cond := u_ws RJ10 TJ10 0
theorem nmJ10 : ∀ a, a < 0 → ∀ b, b < 0 → a ≠ b → (TJ10 a).2.1 ≠ (TJ10 b).2.1 := by decide +kernel
theorem tyJ10_ok : ∀ k, k < 0 → parseFieldDescriptor (TJ10 k).2.2.1 = some (tyJ10 k) := by decide +kernel
def RJ7 : String := "java/util/Arrays"
def TJ7 : u_T := fun k => match k with
  | _ => ("", "", "", false)
def tyJ7 : Nat → FieldType := fun k => match k with
  | _ => .int
abbrev wsJ70 : List Cond := u_ws RJ7 TJ7 0
theorem nmJ7 : ∀ a, a < 0 → ∀ b, b < 0 → a ≠ b → (TJ7 a).2.1 ≠ (TJ7 b).2.1 := by decide +kernel
theorem tyJ7_ok : ∀ k, k < 0 → parseFieldDescriptor (TJ7 k).2.2.1 = some (tyJ7 k) := by decide +kernel
abbrev cJ7_fill_d0a16 : ByteArray := prog_11_method_101_code
def yJ7_fill_d0a16 : MethodName := ⟨RJ7, "fill", "([JJ)V"⟩
abbrev cJ7_fill_53178 : ByteArray := prog_11_method_103_code
def yJ7_fill_53178 : MethodName := ⟨RJ7, "fill", "([II)V"⟩
def RL : String := "LooseGridLaw"
abbrev cL_law : ByteArray := code
def yL_law : MethodName := ⟨RL, "law", "([I)Z"⟩
abbrev vwCl : List vw_C := [(RX0, TX0, 9), (RX1, TX1, 6), (RX2, TX2, 3), (RX3, TX3, 3), (RX4, TX4, 8), (RX5, TX5, 6), (RX6, TX6, 18)]
