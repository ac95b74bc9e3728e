section
-- ===== PART A: goes FIRST, ahead of the names: the tables' words, and 'selects' of the private methods out of them =====
/-- a private method of a class that the tables say can be made, by its rows of tables_1 -/
def lw_okq (q : MethodName × Nat) : Prop := (q.1.cls ≠ "java/lang/invoke/MethodHandle" ∧ q.1.cls ≠ "java/lang/invoke/VarHandle") ∧ Cond.instantiable q.1.cls q.2 ∈ tables_1 ∧ Cond.privateMethod q.1 ∈ tables_1 ∧ Cond.instanceMethod q.1 ∈ tables_1
theorem lw_p0 : lw_okq (⟨"MudShares$Reader", "start", "()V"⟩, 5) := ⟨⟨by decide +kernel, by decide +kernel⟩, List.mem_of_getElem? (i := 37) (by decide +kernel), List.mem_of_getElem? (i := 215) (by decide +kernel), List.mem_of_getElem? (i := 216) (by decide +kernel)⟩
theorem lw_p1 : lw_okq (⟨"MudShares$Reader", "takes", "(I)Z"⟩, 5) := ⟨⟨by decide +kernel, by decide +kernel⟩, List.mem_of_getElem? (i := 37) (by decide +kernel), List.mem_of_getElem? (i := 223) (by decide +kernel), List.mem_of_getElem? (i := 224) (by decide +kernel)⟩
theorem lw_p2 : lw_okq (⟨"MudShares$Reader", "takesComma", "()Z"⟩, 5) := ⟨⟨by decide +kernel, by decide +kernel⟩, List.mem_of_getElem? (i := 37) (by decide +kernel), List.mem_of_getElem? (i := 227) (by decide +kernel), List.mem_of_getElem? (i := 228) (by decide +kernel)⟩
theorem lw_p3 : lw_okq (⟨"MudShares$Reader", "keepNumber", "()V"⟩, 5) := ⟨⟨by decide +kernel, by decide +kernel⟩, List.mem_of_getElem? (i := 37) (by decide +kernel), List.mem_of_getElem? (i := 231) (by decide +kernel), List.mem_of_getElem? (i := 232) (by decide +kernel)⟩
theorem lw_p4 : lw_okq (⟨"MudShares$Reader", "takesSemicolon", "()Z"⟩, 5) := ⟨⟨by decide +kernel, by decide +kernel⟩, List.mem_of_getElem? (i := 37) (by decide +kernel), List.mem_of_getElem? (i := 235) (by decide +kernel), List.mem_of_getElem? (i := 236) (by decide +kernel)⟩
theorem lw_p5 : lw_okq (⟨"MudShares$Reader", "isLastTracer", "()Z"⟩, 5) := ⟨⟨by decide +kernel, by decide +kernel⟩, List.mem_of_getElem? (i := 37) (by decide +kernel), List.mem_of_getElem? (i := 239) (by decide +kernel), List.mem_of_getElem? (i := 240) (by decide +kernel)⟩
theorem lw_p6 : lw_okq (⟨"MudShares$Reader", "takesFigure", "(I)Z"⟩, 5) := ⟨⟨by decide +kernel, by decide +kernel⟩, List.mem_of_getElem? (i := 37) (by decide +kernel), List.mem_of_getElem? (i := 243) (by decide +kernel), List.mem_of_getElem? (i := 244) (by decide +kernel)⟩
theorem lw_p7 : lw_okq (⟨"MudShares", "putHeld", "(III)J"⟩, 7) := ⟨⟨by decide +kernel, by decide +kernel⟩, List.mem_of_getElem? (i := 13) (by decide +kernel), List.mem_of_getElem? (i := 284) (by decide +kernel), List.mem_of_getElem? (i := 285) (by decide +kernel)⟩
theorem lw_p8 : lw_okq (⟨"MudShares$Mud", "areAlike", "(III)Z"⟩, 4) := ⟨⟨by decide +kernel, by decide +kernel⟩, List.mem_of_getElem? (i := 59) (by decide +kernel), List.mem_of_getElem? (i := 361) (by decide +kernel), List.mem_of_getElem? (i := 362) (by decide +kernel)⟩
theorem lw_p9 : lw_okq (⟨"MudShares$Fit", "writeEquations", "()V"⟩, 9) := ⟨⟨by decide +kernel, by decide +kernel⟩, List.mem_of_getElem? (i := 86) (by decide +kernel), List.mem_of_getElem? (i := 397) (by decide +kernel), List.mem_of_getElem? (i := 398) (by decide +kernel)⟩
theorem lw_p10 : lw_okq (⟨"MudShares$Fit", "otherAt", "(I)I"⟩, 9) := ⟨⟨by decide +kernel, by decide +kernel⟩, List.mem_of_getElem? (i := 86) (by decide +kernel), List.mem_of_getElem? (i := 401) (by decide +kernel), List.mem_of_getElem? (i := 402) (by decide +kernel)⟩
theorem lw_p11 : lw_okq (⟨"MudShares$Fit", "fromBase", "(II)J"⟩, 9) := ⟨⟨by decide +kernel, by decide +kernel⟩, List.mem_of_getElem? (i := 86) (by decide +kernel), List.mem_of_getElem? (i := 405) (by decide +kernel), List.mem_of_getElem? (i := 406) (by decide +kernel)⟩
theorem lw_p12 : lw_okq (⟨"MudShares$Fit", "productOf", "(II)J"⟩, 9) := ⟨⟨by decide +kernel, by decide +kernel⟩, List.mem_of_getElem? (i := 86) (by decide +kernel), List.mem_of_getElem? (i := 409) (by decide +kernel), List.mem_of_getElem? (i := 410) (by decide +kernel)⟩
theorem lw_p13 : lw_okq (⟨"MudShares$Fit", "determinant", "()J"⟩, 9) := ⟨⟨by decide +kernel, by decide +kernel⟩, List.mem_of_getElem? (i := 86) (by decide +kernel), List.mem_of_getElem? (i := 413) (by decide +kernel), List.mem_of_getElem? (i := 414) (by decide +kernel)⟩
theorem lw_p14 : lw_okq (⟨"MudShares$Fit", "cofactor", "(II)J"⟩, 9) := ⟨⟨by decide +kernel, by decide +kernel⟩, List.mem_of_getElem? (i := 86) (by decide +kernel), List.mem_of_getElem? (i := 417) (by decide +kernel), List.mem_of_getElem? (i := 418) (by decide +kernel)⟩
theorem lw_p15 : lw_okq (⟨"MudShares$Fit", "entry", "(II)J"⟩, 9) := ⟨⟨by decide +kernel, by decide +kernel⟩, List.mem_of_getElem? (i := 86) (by decide +kernel), List.mem_of_getElem? (i := 421) (by decide +kernel), List.mem_of_getElem? (i := 422) (by decide +kernel)⟩
def lw_privs_1 : List (MethodName × Nat) := [(⟨"MudShares$Reader", "start", "()V"⟩, 5), (⟨"MudShares$Reader", "takes", "(I)Z"⟩, 5), (⟨"MudShares$Reader", "takesComma", "()Z"⟩, 5), (⟨"MudShares$Reader", "keepNumber", "()V"⟩, 5), (⟨"MudShares$Reader", "takesSemicolon", "()Z"⟩, 5), (⟨"MudShares$Reader", "isLastTracer", "()Z"⟩, 5), (⟨"MudShares$Reader", "takesFigure", "(I)Z"⟩, 5), (⟨"MudShares", "putHeld", "(III)J"⟩, 7), (⟨"MudShares$Mud", "areAlike", "(III)Z"⟩, 4), (⟨"MudShares$Fit", "writeEquations", "()V"⟩, 9), (⟨"MudShares$Fit", "otherAt", "(I)I"⟩, 9), (⟨"MudShares$Fit", "fromBase", "(II)J"⟩, 9), (⟨"MudShares$Fit", "productOf", "(II)J"⟩, 9), (⟨"MudShares$Fit", "determinant", "()J"⟩, 9), (⟨"MudShares$Fit", "cofactor", "(II)J"⟩, 9), (⟨"MudShares$Fit", "entry", "(II)J"⟩, 9)]
theorem lw_r1 : ∀ q ∈ lw_privs_1, lw_okq q := List.forall_mem_cons.mpr ⟨lw_p0, List.forall_mem_cons.mpr ⟨lw_p1, List.forall_mem_cons.mpr ⟨lw_p2, List.forall_mem_cons.mpr ⟨lw_p3, List.forall_mem_cons.mpr ⟨lw_p4, List.forall_mem_cons.mpr ⟨lw_p5, List.forall_mem_cons.mpr ⟨lw_p6, List.forall_mem_cons.mpr ⟨lw_p7, List.forall_mem_cons.mpr ⟨lw_p8, List.forall_mem_cons.mpr ⟨lw_p9, List.forall_mem_cons.mpr ⟨lw_p10, List.forall_mem_cons.mpr ⟨lw_p11, List.forall_mem_cons.mpr ⟨lw_p12, List.forall_mem_cons.mpr ⟨lw_p13, List.forall_mem_cons.mpr ⟨lw_p14, List.forall_mem_cons.mpr ⟨lw_p15, fun _ h => absurd h List.not_mem_nil⟩⟩⟩⟩⟩⟩⟩⟩⟩⟩⟩⟩⟩⟩⟩⟩
theorem lw_p16 : lw_okq (⟨"MudShares$Fit", "solveParts", "()V"⟩, 9) := ⟨⟨by decide +kernel, by decide +kernel⟩, List.mem_of_getElem? (i := 86) (by decide +kernel), List.mem_of_getElem? (i := 425) (by decide +kernel), List.mem_of_getElem? (i := 426) (by decide +kernel)⟩
theorem lw_p17 : lw_okq (⟨"MudShares$Fit", "putPart", "(IJ)V"⟩, 9) := ⟨⟨by decide +kernel, by decide +kernel⟩, List.mem_of_getElem? (i := 86) (by decide +kernel), List.mem_of_getElem? (i := 429) (by decide +kernel), List.mem_of_getElem? (i := 430) (by decide +kernel)⟩
theorem lw_p18 : lw_okq (⟨"MudShares$Fit", "misfitAbove", "()J"⟩, 9) := ⟨⟨by decide +kernel, by decide +kernel⟩, List.mem_of_getElem? (i := 86) (by decide +kernel), List.mem_of_getElem? (i := 433) (by decide +kernel), List.mem_of_getElem? (i := 434) (by decide +kernel)⟩
theorem lw_p19 : lw_okq (⟨"MudShares$Nearest", "weighUp", "(I)V"⟩, 5) := ⟨⟨by decide +kernel, by decide +kernel⟩, List.mem_of_getElem? (i := 80) (by decide +kernel), List.mem_of_getElem? (i := 459) (by decide +kernel), List.mem_of_getElem? (i := 460) (by decide +kernel)⟩
theorem lw_p20 : lw_okq (⟨"MudShares", "ofNearest", "(I)J"⟩, 7) := ⟨⟨by decide +kernel, by decide +kernel⟩, List.mem_of_getElem? (i := 13) (by decide +kernel), List.mem_of_getElem? (i := 480) (by decide +kernel), List.mem_of_getElem? (i := 481) (by decide +kernel)⟩
theorem lw_p21 : lw_okq (⟨"MudShares", "shareByNearest", "(II)J"⟩, 7) := ⟨⟨by decide +kernel, by decide +kernel⟩, List.mem_of_getElem? (i := 13) (by decide +kernel), List.mem_of_getElem? (i := 491) (by decide +kernel), List.mem_of_getElem? (i := 492) (by decide +kernel)⟩
theorem lw_p22 : lw_okq (⟨"MudShares", "pressByNearest", "(II)J"⟩, 7) := ⟨⟨by decide +kernel, by decide +kernel⟩, List.mem_of_getElem? (i := 13) (by decide +kernel), List.mem_of_getElem? (i := 505) (by decide +kernel), List.mem_of_getElem? (i := 506) (by decide +kernel)⟩
theorem lw_p23 : lw_okq (⟨"MudShares", "mixedByNearest", "(II)J"⟩, 7) := ⟨⟨by decide +kernel, by decide +kernel⟩, List.mem_of_getElem? (i := 13) (by decide +kernel), List.mem_of_getElem? (i := 517) (by decide +kernel), List.mem_of_getElem? (i := 518) (by decide +kernel)⟩
theorem lw_p24 : lw_okq (⟨"MudShares", "digestOfMud", "(J)J"⟩, 7) := ⟨⟨by decide +kernel, by decide +kernel⟩, List.mem_of_getElem? (i := 13) (by decide +kernel), List.mem_of_getElem? (i := 548) (by decide +kernel), List.mem_of_getElem? (i := 549) (by decide +kernel)⟩
theorem lw_p25 : lw_okq (⟨"MudShares", "digestOfShares", "(JI)J"⟩, 7) := ⟨⟨by decide +kernel, by decide +kernel⟩, List.mem_of_getElem? (i := 13) (by decide +kernel), List.mem_of_getElem? (i := 556) (by decide +kernel), List.mem_of_getElem? (i := 557) (by decide +kernel)⟩
theorem lw_p26 : lw_okq (⟨"MudSharesModel", "goAlong", "()I"⟩, 25) := ⟨⟨by decide +kernel, by decide +kernel⟩, List.mem_of_getElem? (i := 562) (by decide +kernel), List.mem_of_getElem? (i := 661) (by decide +kernel), List.mem_of_getElem? (i := 662) (by decide +kernel)⟩
theorem lw_p27 : lw_okq (⟨"MudSharesModel", "takes", "(I)Z"⟩, 25) := ⟨⟨by decide +kernel, by decide +kernel⟩, List.mem_of_getElem? (i := 562) (by decide +kernel), List.mem_of_getElem? (i := 665) (by decide +kernel), List.mem_of_getElem? (i := 666) (by decide +kernel)⟩
theorem lw_p28 : lw_okq (⟨"MudSharesModel", "endNumber", "()V"⟩, 25) := ⟨⟨by decide +kernel, by decide +kernel⟩, List.mem_of_getElem? (i := 562) (by decide +kernel), List.mem_of_getElem? (i := 669) (by decide +kernel), List.mem_of_getElem? (i := 670) (by decide +kernel)⟩
theorem lw_p29 : lw_okq (⟨"MudSharesModel", "isTracer", "(I)Z"⟩, 25) := ⟨⟨by decide +kernel, by decide +kernel⟩, List.mem_of_getElem? (i := 562) (by decide +kernel), List.mem_of_getElem? (i := 682) (by decide +kernel), List.mem_of_getElem? (i := 683) (by decide +kernel)⟩
theorem lw_p30 : lw_okq (⟨"MudSharesModel", "isSource", "(I)Z"⟩, 25) := ⟨⟨by decide +kernel, by decide +kernel⟩, List.mem_of_getElem? (i := 562) (by decide +kernel), List.mem_of_getElem? (i := 691) (by decide +kernel), List.mem_of_getElem? (i := 692) (by decide +kernel)⟩
theorem lw_p31 : lw_okq (⟨"MudSharesModel", "sumBy", "(II)I"⟩, 25) := ⟨⟨by decide +kernel, by decide +kernel⟩, List.mem_of_getElem? (i := 562) (by decide +kernel), List.mem_of_getElem? (i := 699) (by decide +kernel), List.mem_of_getElem? (i := 700) (by decide +kernel)⟩
def lw_privs_2 : List (MethodName × Nat) := [(⟨"MudShares$Fit", "solveParts", "()V"⟩, 9), (⟨"MudShares$Fit", "putPart", "(IJ)V"⟩, 9), (⟨"MudShares$Fit", "misfitAbove", "()J"⟩, 9), (⟨"MudShares$Nearest", "weighUp", "(I)V"⟩, 5), (⟨"MudShares", "ofNearest", "(I)J"⟩, 7), (⟨"MudShares", "shareByNearest", "(II)J"⟩, 7), (⟨"MudShares", "pressByNearest", "(II)J"⟩, 7), (⟨"MudShares", "mixedByNearest", "(II)J"⟩, 7), (⟨"MudShares", "digestOfMud", "(J)J"⟩, 7), (⟨"MudShares", "digestOfShares", "(JI)J"⟩, 7), (⟨"MudSharesModel", "goAlong", "()I"⟩, 25), (⟨"MudSharesModel", "takes", "(I)Z"⟩, 25), (⟨"MudSharesModel", "endNumber", "()V"⟩, 25), (⟨"MudSharesModel", "isTracer", "(I)Z"⟩, 25), (⟨"MudSharesModel", "isSource", "(I)Z"⟩, 25), (⟨"MudSharesModel", "sumBy", "(II)I"⟩, 25)]
theorem lw_r2 : ∀ q ∈ lw_privs_2, lw_okq q := List.forall_mem_cons.mpr ⟨lw_p16, List.forall_mem_cons.mpr ⟨lw_p17, List.forall_mem_cons.mpr ⟨lw_p18, List.forall_mem_cons.mpr ⟨lw_p19, List.forall_mem_cons.mpr ⟨lw_p20, List.forall_mem_cons.mpr ⟨lw_p21, List.forall_mem_cons.mpr ⟨lw_p22, List.forall_mem_cons.mpr ⟨lw_p23, List.forall_mem_cons.mpr ⟨lw_p24, List.forall_mem_cons.mpr ⟨lw_p25, List.forall_mem_cons.mpr ⟨lw_p26, List.forall_mem_cons.mpr ⟨lw_p27, List.forall_mem_cons.mpr ⟨lw_p28, List.forall_mem_cons.mpr ⟨lw_p29, List.forall_mem_cons.mpr ⟨lw_p30, List.forall_mem_cons.mpr ⟨lw_p31, fun _ h => absurd h List.not_mem_nil⟩⟩⟩⟩⟩⟩⟩⟩⟩⟩⟩⟩⟩⟩⟩⟩
theorem lw_p32 : lw_okq (⟨"MudSharesModel", "hasNow", "(II)J"⟩, 25) := ⟨⟨by decide +kernel, by decide +kernel⟩, List.mem_of_getElem? (i := 562) (by decide +kernel), List.mem_of_getElem? (i := 707) (by decide +kernel), List.mem_of_getElem? (i := 708) (by decide +kernel)⟩
theorem lw_p33 : lw_okq (⟨"MudSharesModel", "isUsed", "(I)Z"⟩, 25) := ⟨⟨by decide +kernel, by decide +kernel⟩, List.mem_of_getElem? (i := 562) (by decide +kernel), List.mem_of_getElem? (i := 720) (by decide +kernel), List.mem_of_getElem? (i := 721) (by decide +kernel)⟩
theorem lw_p34 : lw_okq (⟨"MudSharesModel", "alikeOf", "(II)I"⟩, 25) := ⟨⟨by decide +kernel, by decide +kernel⟩, List.mem_of_getElem? (i := 562) (by decide +kernel), List.mem_of_getElem? (i := 724) (by decide +kernel), List.mem_of_getElem? (i := 725) (by decide +kernel)⟩
theorem lw_p35 : lw_okq (⟨"MudSharesModel", "areAlike", "(III)Z"⟩, 25) := ⟨⟨by decide +kernel, by decide +kernel⟩, List.mem_of_getElem? (i := 562) (by decide +kernel), List.mem_of_getElem? (i := 728) (by decide +kernel), List.mem_of_getElem? (i := 729) (by decide +kernel)⟩
theorem lw_p36 : lw_okq (⟨"MudSharesModel", "layBest", "(I)V"⟩, 25) := ⟨⟨by decide +kernel, by decide +kernel⟩, List.mem_of_getElem? (i := 562) (by decide +kernel), List.mem_of_getElem? (i := 739) (by decide +kernel), List.mem_of_getElem? (i := 740) (by decide +kernel)⟩
theorem lw_p37 : lw_okq (⟨"MudSharesModel", "laySet", "(II)V"⟩, 25) := ⟨⟨by decide +kernel, by decide +kernel⟩, List.mem_of_getElem? (i := 562) (by decide +kernel), List.mem_of_getElem? (i := 743) (by decide +kernel), List.mem_of_getElem? (i := 744) (by decide +kernel)⟩
theorem lw_p38 : lw_okq (⟨"MudSharesModel", "layPairs", "(I)V"⟩, 25) := ⟨⟨by decide +kernel, by decide +kernel⟩, List.mem_of_getElem? (i := 562) (by decide +kernel), List.mem_of_getElem? (i := 747) (by decide +kernel), List.mem_of_getElem? (i := 748) (by decide +kernel)⟩
theorem lw_p39 : lw_okq (⟨"MudSharesModel", "apart", "(II)J"⟩, 25) := ⟨⟨by decide +kernel, by decide +kernel⟩, List.mem_of_getElem? (i := 562) (by decide +kernel), List.mem_of_getElem? (i := 751) (by decide +kernel), List.mem_of_getElem? (i := 752) (by decide +kernel)⟩
theorem lw_p40 : lw_okq (⟨"MudSharesModel", "short0", "(I)J"⟩, 25) := ⟨⟨by decide +kernel, by decide +kernel⟩, List.mem_of_getElem? (i := 562) (by decide +kernel), List.mem_of_getElem? (i := 755) (by decide +kernel), List.mem_of_getElem? (i := 756) (by decide +kernel)⟩
theorem lw_p41 : lw_okq (⟨"MudSharesModel", "determinant", "(I)J"⟩, 25) := ⟨⟨by decide +kernel, by decide +kernel⟩, List.mem_of_getElem? (i := 562) (by decide +kernel), List.mem_of_getElem? (i := 759) (by decide +kernel), List.mem_of_getElem? (i := 760) (by decide +kernel)⟩
theorem lw_p42 : lw_okq (⟨"MudSharesModel", "cell", "(III)J"⟩, 25) := ⟨⟨by decide +kernel, by decide +kernel⟩, List.mem_of_getElem? (i := 562) (by decide +kernel), List.mem_of_getElem? (i := 763) (by decide +kernel), List.mem_of_getElem? (i := 764) (by decide +kernel)⟩
theorem lw_p43 : lw_okq (⟨"MudSharesModel", "isGood", "()Z"⟩, 25) := ⟨⟨by decide +kernel, by decide +kernel⟩, List.mem_of_getElem? (i := 562) (by decide +kernel), List.mem_of_getElem? (i := 767) (by decide +kernel), List.mem_of_getElem? (i := 768) (by decide +kernel)⟩
theorem lw_p44 : lw_okq (⟨"MudSharesModel", "bestNow", "(I)J"⟩, 25) := ⟨⟨by decide +kernel, by decide +kernel⟩, List.mem_of_getElem? (i := 562) (by decide +kernel), List.mem_of_getElem? (i := 777) (by decide +kernel), List.mem_of_getElem? (i := 778) (by decide +kernel)⟩
theorem lw_p45 : lw_okq (⟨"MudSharesModel", "shareNow", "(II)J"⟩, 25) := ⟨⟨by decide +kernel, by decide +kernel⟩, List.mem_of_getElem? (i := 562) (by decide +kernel), List.mem_of_getElem? (i := 791) (by decide +kernel), List.mem_of_getElem? (i := 792) (by decide +kernel)⟩
theorem lw_p46 : lw_okq (⟨"MudSharesModel", "pressNow", "(III)J"⟩, 25) := ⟨⟨by decide +kernel, by decide +kernel⟩, List.mem_of_getElem? (i := 562) (by decide +kernel), List.mem_of_getElem? (i := 799) (by decide +kernel), List.mem_of_getElem? (i := 800) (by decide +kernel)⟩
theorem lw_p47 : lw_okq (⟨"MudSharesModel", "mixedAbove", "(I)J"⟩, 25) := ⟨⟨by decide +kernel, by decide +kernel⟩, List.mem_of_getElem? (i := 562) (by decide +kernel), List.mem_of_getElem? (i := 803) (by decide +kernel), List.mem_of_getElem? (i := 804) (by decide +kernel)⟩
def lw_privs_3 : List (MethodName × Nat) := [(⟨"MudSharesModel", "hasNow", "(II)J"⟩, 25), (⟨"MudSharesModel", "isUsed", "(I)Z"⟩, 25), (⟨"MudSharesModel", "alikeOf", "(II)I"⟩, 25), (⟨"MudSharesModel", "areAlike", "(III)Z"⟩, 25), (⟨"MudSharesModel", "layBest", "(I)V"⟩, 25), (⟨"MudSharesModel", "laySet", "(II)V"⟩, 25), (⟨"MudSharesModel", "layPairs", "(I)V"⟩, 25), (⟨"MudSharesModel", "apart", "(II)J"⟩, 25), (⟨"MudSharesModel", "short0", "(I)J"⟩, 25), (⟨"MudSharesModel", "determinant", "(I)J"⟩, 25), (⟨"MudSharesModel", "cell", "(III)J"⟩, 25), (⟨"MudSharesModel", "isGood", "()Z"⟩, 25), (⟨"MudSharesModel", "bestNow", "(I)J"⟩, 25), (⟨"MudSharesModel", "shareNow", "(II)J"⟩, 25), (⟨"MudSharesModel", "pressNow", "(III)J"⟩, 25), (⟨"MudSharesModel", "mixedAbove", "(I)J"⟩, 25)]
theorem lw_r3 : ∀ q ∈ lw_privs_3, lw_okq q := List.forall_mem_cons.mpr ⟨lw_p32, List.forall_mem_cons.mpr ⟨lw_p33, List.forall_mem_cons.mpr ⟨lw_p34, List.forall_mem_cons.mpr ⟨lw_p35, List.forall_mem_cons.mpr ⟨lw_p36, List.forall_mem_cons.mpr ⟨lw_p37, List.forall_mem_cons.mpr ⟨lw_p38, List.forall_mem_cons.mpr ⟨lw_p39, List.forall_mem_cons.mpr ⟨lw_p40, List.forall_mem_cons.mpr ⟨lw_p41, List.forall_mem_cons.mpr ⟨lw_p42, List.forall_mem_cons.mpr ⟨lw_p43, List.forall_mem_cons.mpr ⟨lw_p44, List.forall_mem_cons.mpr ⟨lw_p45, List.forall_mem_cons.mpr ⟨lw_p46, List.forall_mem_cons.mpr ⟨lw_p47, fun _ h => absurd h List.not_mem_nil⟩⟩⟩⟩⟩⟩⟩⟩⟩⟩⟩⟩⟩⟩⟩⟩
theorem lw_p48 : lw_okq (⟨"MudSharesModel", "howMany", "(I)J"⟩, 25) := ⟨⟨by decide +kernel, by decide +kernel⟩, List.mem_of_getElem? (i := 562) (by decide +kernel), List.mem_of_getElem? (i := 819) (by decide +kernel), List.mem_of_getElem? (i := 820) (by decide +kernel)⟩
theorem lw_p49 : lw_okq (⟨"MudSharesModel", "mix", "(J)V"⟩, 25) := ⟨⟨by decide +kernel, by decide +kernel⟩, List.mem_of_getElem? (i := 562) (by decide +kernel), List.mem_of_getElem? (i := 828) (by decide +kernel), List.mem_of_getElem? (i := 829) (by decide +kernel)⟩
theorem lw_p50 : lw_okq (⟨"MudSharesModel", "mixBy", "(I)V"⟩, 25) := ⟨⟨by decide +kernel, by decide +kernel⟩, List.mem_of_getElem? (i := 562) (by decide +kernel), List.mem_of_getElem? (i := 833) (by decide +kernel), List.mem_of_getElem? (i := 834) (by decide +kernel)⟩
def lw_privs_4 : List (MethodName × Nat) := [(⟨"MudSharesModel", "howMany", "(I)J"⟩, 25), (⟨"MudSharesModel", "mix", "(J)V"⟩, 25), (⟨"MudSharesModel", "mixBy", "(I)V"⟩, 25)]
theorem lw_r4 : ∀ q ∈ lw_privs_4, lw_okq q := List.forall_mem_cons.mpr ⟨lw_p48, List.forall_mem_cons.mpr ⟨lw_p49, List.forall_mem_cons.mpr ⟨lw_p50, fun _ h => absurd h List.not_mem_nil⟩⟩⟩
def lw_privs : List (MethodName × Nat) := lw_privs_1 ++ (lw_privs_2 ++ (lw_privs_3 ++ (lw_privs_4)))
def lw_tbl : List Cond := k2_sels lw_privs ++ tables_1
theorem lw_privs_ok : ∀ q ∈ lw_privs, lw_okq q := by
  show ∀ q ∈ lw_privs_1 ++ (lw_privs_2 ++ (lw_privs_3 ++ (lw_privs_4))), lw_okq q
  exact List.forall_mem_append.mpr ⟨lw_r1, List.forall_mem_append.mpr ⟨lw_r2, List.forall_mem_append.mpr ⟨lw_r3, lw_r4⟩⟩⟩
-- ===== end of PART A; then your names; then what follows =====
end
section
/-! ===== BEGIN words of one list among another's, by their places ===== -/
theorem goodIn_r {big : List Cond} (ws : List Cond) (ps : List Nat) (hp : ws = ps.filterMap (fun i => big[i]?)) (h : ws.all goodWord = true) : GoodIn big ws := by
  intro w hw
  have h1 := List.all_eq_true.mp h w hw
  rw [hp] at hw
  obtain ⟨i, -, hi⟩ := List.mem_filterMap.mp hw
  have hm : w ∈ big := by first | exact List.mem_of_getElem? hi | exact List.getElem?_mem hi
  exact ⟨hm, good_of_word h1⟩
theorem goodIn_app {big a b : List Cond} (ha : GoodIn big a) (hb : GoodIn big b) : GoodIn big (a ++ b) := fun w h => (List.mem_append.mp h).elim (ha w) (hb w)
theorem goodIn_ca {big a b : List Cond} {c : Cond} (ha : GoodIn big (c :: a)) (hb : GoodIn big b) : GoodIn big (c :: (a ++ b)) := fun w h => (List.mem_cons.mp h).elim (fun e => ha w (List.mem_cons.mpr (Or.inl e))) (fun h => (List.mem_append.mp h).elim (fun h => ha w (List.mem_cons.mpr (Or.inr h))) (hb w))
theorem goodIn_sub {big ws : List Cond} (hm : ∀ w ∈ ws, w ∈ big) (h : ws.all goodWord = true) : GoodIn big ws := fun w hw => ⟨hm w hw, good_of_word (List.all_eq_true.mp h w hw)⟩
/-! ===== END ===== -/

/-! ===== BEGIN printed: names, fields, word lists, decode rows ===== -/
def RX0 : String := "MudShares$Fit"
def TX0 : u_T := fun k => match k with
  | 0 => ("MudShares$Fit", "mud", "LMudShares$Mud;", true)
  | 1 => ("MudShares$Fit", "products", "[J", true)
  | 2 => ("MudShares$Fit", "matrix", "[J", true)
  | 3 => ("MudShares$Fit", "side", "[J", true)
  | 4 => ("MudShares$Fit", "parts", "[J", true)
  | 5 => ("MudShares$Fit", "misfit", "LMudShares$Fraction;", true)
  | 6 => ("MudShares$Fit", "set", "I", false)
  | 7 => ("MudShares$Fit", "base", "I", false)
  | _ => ("MudShares$Fit", "below", "J", false)
def tyX0 : Nat → FieldType := fun k => match k with
  | 0 => .object "MudShares$Mud"
  | 1 => .array .long
  | 2 => .array .long
  | 3 => .array .long
  | 4 => .array .long
  | 5 => .object "MudShares$Fraction"
  | 6 => .int
  | 7 => .int
  | _ => .long
abbrev wsX00 : List Cond := u_ws RX0 TX0 9
theorem nmX0 : ∀ a, a < 9 → ∀ b, b < 9 → a ≠ b → (TX0 a).2.1 ≠ (TX0 b).2.1 := by decide +kernel
theorem tyX0_ok : ∀ k, k < 9 → parseFieldDescriptor (TX0 k).2.2.1 = some (tyX0 k) := by decide +kernel
abbrev cX0_init : ByteArray := prog_2_method_1_code
def yX0_init : MethodName := ⟨RX0, "<init>", "(LMudShares$Mud;)V"⟩
abbrev cX0_weigh : ByteArray := prog_2_method_2_code
def yX0_weigh : MethodName := ⟨RX0, "weigh", "(I)V"⟩
abbrev cX0_solve : ByteArray := prog_2_method_3_code
def yX0_solve : MethodName := ⟨RX0, "solve", "(I)V"⟩
abbrev cX0_isOnly : ByteArray := prog_2_method_4_code
def yX0_isOnly : MethodName := ⟨RX0, "isOnly", "()Z"⟩
abbrev cX0_isGood : ByteArray := prog_2_method_5_code
def yX0_isGood : MethodName := ⟨RX0, "isGood", "()Z"⟩
abbrev cX0_partOf : ByteArray := prog_2_method_6_code
def yX0_partOf : MethodName := ⟨RX0, "partOf", "(I)J"⟩
abbrev cX0_pressAbove : ByteArray := prog_2_method_7_code
def yX0_pressAbove : MethodName := ⟨RX0, "pressAbove", "(I)J"⟩
abbrev cX0_mixedAbove : ByteArray := prog_2_method_8_code
def yX0_mixedAbove : MethodName := ⟨RX0, "mixedAbove", "(I)J"⟩
abbrev cX0_writeEquations : ByteArray := prog_2_method_9_code
def yX0_writeEquations : MethodName := ⟨RX0, "writeEquations", "()V"⟩
abbrev cX0_solveParts : ByteArray := prog_2_method_10_code
def yX0_solveParts : MethodName := ⟨RX0, "solveParts", "()V"⟩
abbrev cX0_misfitAbove : ByteArray := prog_2_method_11_code
def yX0_misfitAbove : MethodName := ⟨RX0, "misfitAbove", "()J"⟩
abbrev cX0_determinant : ByteArray := prog_2_method_12_code
def yX0_determinant : MethodName := ⟨RX0, "determinant", "()J"⟩
abbrev cX0_cofactor : ByteArray := prog_2_method_13_code
def yX0_cofactor : MethodName := ⟨RX0, "cofactor", "(II)J"⟩
abbrev cX0_entry : ByteArray := prog_2_method_14_code
def yX0_entry : MethodName := ⟨RX0, "entry", "(II)J"⟩
abbrev cX0_putPart : ByteArray := prog_2_method_15_code
def yX0_putPart : MethodName := ⟨RX0, "putPart", "(IJ)V"⟩
abbrev cX0_otherAt : ByteArray := prog_2_method_16_code
def yX0_otherAt : MethodName := ⟨RX0, "otherAt", "(I)I"⟩
abbrev cX0_fromBase : ByteArray := prog_2_method_17_code
def yX0_fromBase : MethodName := ⟨RX0, "fromBase", "(II)J"⟩
abbrev cX0_productOf : ByteArray := prog_2_method_18_code
def yX0_productOf : MethodName := ⟨RX0, "productOf", "(II)J"⟩
abbrev cX0_firstOf : ByteArray := prog_2_method_19_code
def yX0_firstOf : MethodName := ⟨RX0, "firstOf", "(I)I"⟩
def RX1 : String := "MudShares$Fraction"
def TX1 : u_T := fun k => match k with
  | 0 => ("MudShares$Fraction", "above", "J", false)
  | _ => ("MudShares$Fraction", "below", "J", false)
def tyX1 : Nat → FieldType := fun k => match k with
  | 0 => .long
  | _ => .long
abbrev wsX10 : List Cond := u_ws RX1 TX1 2
theorem nmX1 : ∀ a, a < 2 → ∀ b, b < 2 → a ≠ b → (TX1 a).2.1 ≠ (TX1 b).2.1 := by decide +kernel
theorem tyX1_ok : ∀ k, k < 2 → parseFieldDescriptor (TX1 k).2.2.1 = some (tyX1 k) := by decide +kernel
abbrev cX1_init : ByteArray := prog_3_method_1_code
def yX1_init : MethodName := ⟨RX1, "<init>", "()V"⟩
abbrev cX1_put : ByteArray := prog_3_method_2_code
def yX1_put : MethodName := ⟨RX1, "put", "(JJ)V"⟩
abbrev cX1_copy : ByteArray := prog_3_method_3_code
def yX1_copy : MethodName := ⟨RX1, "copy", "(LMudShares$Fraction;)V"⟩
abbrev cX1_part : ByteArray := prog_3_method_4_code
def yX1_part : MethodName := ⟨RX1, "part", "(I)J"⟩
abbrev cX1_against : ByteArray := prog_3_method_5_code
def yX1_against : MethodName := ⟨RX1, "against", "(LMudShares$Fraction;)I"⟩
abbrev cX1_commonDivisor : ByteArray := prog_3_method_6_code
def yX1_commonDivisor : MethodName := ⟨RX1, "commonDivisor", "(JJ)J"⟩
def RX2 : String := "MudShares$Mud"
def TX2 : u_T := fun k => match k with
  | 0 => ("MudShares$Mud", "held", "[I", true)
  | 1 => ("MudShares$Mud", "weights", "[I", true)
  | 2 => ("MudShares$Mud", "sourceCount", "I", false)
  | _ => ("MudShares$Mud", "tracerCount", "I", false)
def tyX2 : Nat → FieldType := fun k => match k with
  | 0 => .array .int
  | 1 => .array .int
  | 2 => .int
  | _ => .int
abbrev wsX20 : List Cond := u_ws RX2 TX2 4
theorem nmX2 : ∀ a, a < 4 → ∀ b, b < 4 → a ≠ b → (TX2 a).2.1 ≠ (TX2 b).2.1 := by decide +kernel
theorem tyX2_ok : ∀ k, k < 4 → parseFieldDescriptor (TX2 k).2.2.1 = some (tyX2 k) := by decide +kernel
abbrev cX2_init : ByteArray := prog_4_method_1_code
def yX2_init : MethodName := ⟨RX2, "<init>", "()V"⟩
abbrev cX2_become : ByteArray := prog_4_method_2_code
def yX2_become : MethodName := ⟨RX2, "become", "(LMudShares$Reader;)V"⟩
abbrev cX2_isSource : ByteArray := prog_4_method_3_code
def yX2_isSource : MethodName := ⟨RX2, "isSource", "(I)Z"⟩
abbrev cX2_isTracer : ByteArray := prog_4_method_4_code
def yX2_isTracer : MethodName := ⟨RX2, "isTracer", "(I)Z"⟩
abbrev cX2_isSet : ByteArray := prog_4_method_5_code
def yX2_isSet : MethodName := ⟨RX2, "isSet", "(I)Z"⟩
abbrev cX2_isUsed : ByteArray := prog_4_method_6_code
def yX2_isUsed : MethodName := ⟨RX2, "isUsed", "(I)Z"⟩
abbrev cX2_allSources : ByteArray := prog_4_method_7_code
def yX2_allSources : MethodName := ⟨RX2, "allSources", "()I"⟩
abbrev cX2_allTracers : ByteArray := prog_4_method_8_code
def yX2_allTracers : MethodName := ⟨RX2, "allTracers", "()I"⟩
abbrev cX2_heldOf : ByteArray := prog_4_method_9_code
def yX2_heldOf : MethodName := ⟨RX2, "heldOf", "(II)I"⟩
abbrev cX2_putHeld : ByteArray := prog_4_method_10_code
def yX2_putHeld : MethodName := ⟨RX2, "putHeld", "(III)V"⟩
abbrev cX2_weightOf : ByteArray := prog_4_method_11_code
def yX2_weightOf : MethodName := ⟨RX2, "weightOf", "(I)I"⟩
abbrev cX2_putWeight : ByteArray := prog_4_method_12_code
def yX2_putWeight : MethodName := ⟨RX2, "putWeight", "(II)V"⟩
abbrev cX2_heldByParts : ByteArray := prog_4_method_13_code
def yX2_heldByParts : MethodName := ⟨RX2, "heldByParts", "(II)I"⟩
abbrev cX2_firstAlike : ByteArray := prog_4_method_14_code
def yX2_firstAlike : MethodName := ⟨RX2, "firstAlike", "(II)I"⟩
abbrev cX2_product : ByteArray := prog_4_method_15_code
def yX2_product : MethodName := ⟨RX2, "product", "(III)J"⟩
abbrev cX2_areAlike : ByteArray := prog_4_method_16_code
def yX2_areAlike : MethodName := ⟨RX2, "areAlike", "(III)Z"⟩
abbrev cX2_isPlace : ByteArray := prog_4_method_17_code
def yX2_isPlace : MethodName := ⟨RX2, "isPlace", "(II)Z"⟩
def RX3 : String := "MudShares$Nearest"
def TX3 : u_T := fun k => match k with
  | 0 => ("MudShares$Nearest", "mud", "LMudShares$Mud;", true)
  | 1 => ("MudShares$Nearest", "fit", "LMudShares$Fit;", true)
  | 2 => ("MudShares$Nearest", "misfit", "LMudShares$Fraction;", true)
  | 3 => ("MudShares$Nearest", "set", "I", false)
  | _ => ("MudShares$Nearest", "corners", "I", false)
def tyX3 : Nat → FieldType := fun k => match k with
  | 0 => .object "MudShares$Mud"
  | 1 => .object "MudShares$Fit"
  | 2 => .object "MudShares$Fraction"
  | 3 => .int
  | _ => .int
abbrev wsX30 : List Cond := u_ws RX3 TX3 5
theorem nmX3 : ∀ a, a < 5 → ∀ b, b < 5 → a ≠ b → (TX3 a).2.1 ≠ (TX3 b).2.1 := by decide +kernel
theorem tyX3_ok : ∀ k, k < 5 → parseFieldDescriptor (TX3 k).2.2.1 = some (tyX3 k) := by decide +kernel
abbrev cX3_init : ByteArray := prog_5_method_1_code
def yX3_init : MethodName := ⟨RX3, "<init>", "(LMudShares$Mud;)V"⟩
abbrev cX3_find : ByteArray := prog_5_method_2_code
def yX3_find : MethodName := ⟨RX3, "find", "(I)V"⟩
abbrev cX3_weighUp : ByteArray := prog_5_method_3_code
def yX3_weighUp : MethodName := ⟨RX3, "weighUp", "(I)V"⟩
def RX4 : String := "MudShares$Page"
def TX4 : u_T := fun k => match k with
  | 0 => ("MudShares$Page", "codes", "[I", true)
  | _ => ("MudShares$Page", "length", "I", false)
def tyX4 : Nat → FieldType := fun k => match k with
  | 0 => .array .int
  | _ => .int
abbrev wsX40 : List Cond := u_ws RX4 TX4 2
theorem nmX4 : ∀ a, a < 2 → ∀ b, b < 2 → a ≠ b → (TX4 a).2.1 ≠ (TX4 b).2.1 := by decide +kernel
theorem tyX4_ok : ∀ k, k < 2 → parseFieldDescriptor (TX4 k).2.2.1 = some (tyX4 k) := by decide +kernel
abbrev cX4_init : ByteArray := prog_6_method_1_code
def yX4_init : MethodName := ⟨RX4, "<init>", "()V"⟩
abbrev cX4_isFull : ByteArray := prog_6_method_2_code
def yX4_isFull : MethodName := ⟨RX4, "isFull", "()Z"⟩
abbrev cX4_append : ByteArray := prog_6_method_3_code
def yX4_append : MethodName := ⟨RX4, "append", "(I)V"⟩
abbrev cX4_empty : ByteArray := prog_6_method_4_code
def yX4_empty : MethodName := ⟨RX4, "empty", "()V"⟩
abbrev cX4_codeAt : ByteArray := prog_6_method_5_code
def yX4_codeAt : MethodName := ⟨RX4, "codeAt", "(I)I"⟩
def RX5 : String := "MudShares$Reader"
def TX5 : u_T := fun k => match k with
  | 0 => ("MudShares$Reader", "draft", "[I", true)
  | 1 => ("MudShares$Reader", "source", "I", false)
  | 2 => ("MudShares$Reader", "tracer", "I", false)
  | 3 => ("MudShares$Reader", "width", "I", false)
  | _ => ("MudShares$Reader", "number", "I", false)
def tyX5 : Nat → FieldType := fun k => match k with
  | 0 => .array .int
  | 1 => .int
  | 2 => .int
  | 3 => .int
  | _ => .int
abbrev wsX50 : List Cond := u_ws RX5 TX5 5
theorem nmX5 : ∀ a, a < 5 → ∀ b, b < 5 → a ≠ b → (TX5 a).2.1 ≠ (TX5 b).2.1 := by decide +kernel
theorem tyX5_ok : ∀ k, k < 5 → parseFieldDescriptor (TX5 k).2.2.1 = some (tyX5 k) := by decide +kernel
abbrev cX5_init : ByteArray := prog_7_method_1_code
def yX5_init : MethodName := ⟨RX5, "<init>", "()V"⟩
abbrev cX5_read : ByteArray := prog_7_method_2_code
def yX5_read : MethodName := ⟨RX5, "read", "(LMudShares$Page;)I"⟩
abbrev cX5_finish : ByteArray := prog_7_method_3_code
def yX5_finish : MethodName := ⟨RX5, "finish", "()Z"⟩
abbrev cX5_sourcesRead : ByteArray := prog_7_method_4_code
def yX5_sourcesRead : MethodName := ⟨RX5, "sourcesRead", "()I"⟩
abbrev cX5_tracersRead : ByteArray := prog_7_method_5_code
def yX5_tracersRead : MethodName := ⟨RX5, "tracersRead", "()I"⟩
abbrev cX5_draftOf : ByteArray := prog_7_method_6_code
def yX5_draftOf : MethodName := ⟨RX5, "draftOf", "(II)I"⟩
abbrev cX5_start : ByteArray := prog_7_method_7_code
def yX5_start : MethodName := ⟨RX5, "start", "()V"⟩
abbrev cX5_takes : ByteArray := prog_7_method_8_code
def yX5_takes : MethodName := ⟨RX5, "takes", "(I)Z"⟩
abbrev cX5_takesFigure : ByteArray := prog_7_method_9_code
def yX5_takesFigure : MethodName := ⟨RX5, "takesFigure", "(I)Z"⟩
abbrev cX5_takesComma : ByteArray := prog_7_method_10_code
def yX5_takesComma : MethodName := ⟨RX5, "takesComma", "()Z"⟩
abbrev cX5_takesSemicolon : ByteArray := prog_7_method_11_code
def yX5_takesSemicolon : MethodName := ⟨RX5, "takesSemicolon", "()Z"⟩
abbrev cX5_isLastTracer : ByteArray := prog_7_method_12_code
def yX5_isLastTracer : MethodName := ⟨RX5, "isLastTracer", "()Z"⟩
abbrev cX5_keepNumber : ByteArray := prog_7_method_13_code
def yX5_keepNumber : MethodName := ⟨RX5, "keepNumber", "()V"⟩
def RX6 : String := "MudShares"
def TX6 : u_T := fun k => match k with
  | 0 => ("MudShares", "page", "LMudShares$Page;", true)
  | 1 => ("MudShares", "reader", "LMudShares$Reader;", true)
  | 2 => ("MudShares", "mud", "LMudShares$Mud;", true)
  | 3 => ("MudShares", "nearest", "LMudShares$Nearest;", true)
  | 4 => ("MudShares", "told", "LMudShares$Fraction;", true)
  | 5 => ("MudShares", "timesRead", "J", false)
  | _ => ("MudShares", "timesAltered", "J", false)
def tyX6 : Nat → FieldType := fun k => match k with
  | 0 => .object "MudShares$Page"
  | 1 => .object "MudShares$Reader"
  | 2 => .object "MudShares$Mud"
  | 3 => .object "MudShares$Nearest"
  | 4 => .object "MudShares$Fraction"
  | 5 => .long
  | _ => .long
abbrev wsX60 : List Cond := u_ws RX6 TX6 7
theorem nmX6 : ∀ a, a < 7 → ∀ b, b < 7 → a ≠ b → (TX6 a).2.1 ≠ (TX6 b).2.1 := by decide +kernel
theorem tyX6_ok : ∀ k, k < 7 → parseFieldDescriptor (TX6 k).2.2.1 = some (tyX6 k) := by decide +kernel
abbrev cX6_init : ByteArray := prog_1_method_1_code
def yX6_init : MethodName := ⟨RX6, "<init>", "()V"⟩
abbrev cX6_letter : ByteArray := prog_1_method_2_code
def yX6_letter : MethodName := ⟨RX6, "letter", "(I)J"⟩
abbrev cX6_blank : ByteArray := prog_1_method_3_code
def yX6_blank : MethodName := ⟨RX6, "blank", "()J"⟩
abbrev cX6_fault : ByteArray := prog_1_method_4_code
def yX6_fault : MethodName := ⟨RX6, "fault", "()J"⟩
abbrev cX6_sources : ByteArray := prog_1_method_5_code
def yX6_sources : MethodName := ⟨RX6, "sources", "()J"⟩
abbrev cX6_set : ByteArray := prog_1_method_6_code
def yX6_set : MethodName := ⟨RX6, "set", "(III)J"⟩
abbrev cX6_alter : ByteArray := prog_1_method_7_code
def yX6_alter : MethodName := ⟨RX6, "alter", "(III)J"⟩
abbrev cX6_made : ByteArray := prog_1_method_8_code
def yX6_made : MethodName := ⟨RX6, "made", "(I)J"⟩
abbrev cX6_has : ByteArray := prog_1_method_9_code
def yX6_has : MethodName := ⟨RX6, "has", "(II)J"⟩
abbrev cX6_tracer : ByteArray := prog_1_method_10_code
def yX6_tracer : MethodName := ⟨RX6, "tracer", "(II)J"⟩
abbrev cX6_alike : ByteArray := prog_1_method_11_code
def yX6_alike : MethodName := ⟨RX6, "alike", "(II)J"⟩
abbrev cX6_best : ByteArray := prog_1_method_12_code
def yX6_best : MethodName := ⟨RX6, "best", "(II)J"⟩
abbrev cX6_share : ByteArray := prog_1_method_13_code
def yX6_share : MethodName := ⟨RX6, "share", "(III)J"⟩
abbrev cX6_press : ByteArray := prog_1_method_14_code
def yX6_press : MethodName := ⟨RX6, "press", "(III)J"⟩
abbrev cX6_mixed : ByteArray := prog_1_method_15_code
def yX6_mixed : MethodName := ⟨RX6, "mixed", "(III)J"⟩
abbrev cX6_corner : ByteArray := prog_1_method_16_code
def yX6_corner : MethodName := ⟨RX6, "corner", "(III)J"⟩
abbrev cX6_count : ByteArray := prog_1_method_17_code
def yX6_count : MethodName := ⟨RX6, "count", "(I)J"⟩
abbrev cX6_digest : ByteArray := prog_1_method_18_code
def yX6_digest : MethodName := ⟨RX6, "digest", "()J"⟩
abbrev cX6_digestOfMud : ByteArray := prog_1_method_19_code
def yX6_digestOfMud : MethodName := ⟨RX6, "digestOfMud", "(J)J"⟩
abbrev cX6_digestOfShares : ByteArray := prog_1_method_20_code
def yX6_digestOfShares : MethodName := ⟨RX6, "digestOfShares", "(JI)J"⟩
abbrev cX6_ofNearest : ByteArray := prog_1_method_21_code
def yX6_ofNearest : MethodName := ⟨RX6, "ofNearest", "(I)J"⟩
abbrev cX6_shareByNearest : ByteArray := prog_1_method_22_code
def yX6_shareByNearest : MethodName := ⟨RX6, "shareByNearest", "(II)J"⟩
abbrev cX6_pressByNearest : ByteArray := prog_1_method_23_code
def yX6_pressByNearest : MethodName := ⟨RX6, "pressByNearest", "(II)J"⟩
abbrev cX6_mixedByNearest : ByteArray := prog_1_method_24_code
def yX6_mixedByNearest : MethodName := ⟨RX6, "mixedByNearest", "(II)J"⟩
abbrev cX6_putHeld : ByteArray := prog_1_method_25_code
def yX6_putHeld : MethodName := ⟨RX6, "putHeld", "(III)J"⟩
abbrev cX6_isHeld : ByteArray := prog_1_method_26_code
def yX6_isHeld : MethodName := ⟨RX6, "isHeld", "(I)Z"⟩
abbrev cX6_isPart : ByteArray := prog_1_method_27_code
def yX6_isPart : MethodName := ⟨RX6, "isPart", "(I)Z"⟩
abbrev cX6_isMultiple : ByteArray := prog_1_method_28_code
def yX6_isMultiple : MethodName := ⟨RX6, "isMultiple", "(II)Z"⟩
abbrev cX6_quotient : ByteArray := prog_1_method_29_code
def yX6_quotient : MethodName := ⟨RX6, "quotient", "(II)I"⟩
abbrev cX6_isIn : ByteArray := prog_1_method_30_code
def yX6_isIn : MethodName := ⟨RX6, "isIn", "(II)Z"⟩
abbrev cX6_powerOfTen : ByteArray := prog_1_method_31_code
def yX6_powerOfTen : MethodName := ⟨RX6, "powerOfTen", "(I)I"⟩
abbrev cX6_figureSum : ByteArray := prog_1_method_32_code
def yX6_figureSum : MethodName := ⟨RX6, "figureSum", "(I)I"⟩
def RX7 : String := "MudSharesModel"
def TX7 : u_T := fun k => match k with
  | 0 => ("MudSharesModel", "pageLength", "I", false)
  | 1 => ("MudSharesModel", "page", "[I", true)
  | 2 => ("MudSharesModel", "sources", "I", false)
  | 3 => ("MudSharesModel", "tracers", "I", false)
  | 4 => ("MudSharesModel", "amountIn", "[I", true)
  | 5 => ("MudSharesModel", "wanted", "[I", true)
  | 6 => ("MudSharesModel", "weightOf", "[I", true)
  | 7 => ("MudSharesModel", "sourcesRead", "I", false)
  | 8 => ("MudSharesModel", "altered", "I", false)
  | 9 => ("MudSharesModel", "newSources", "I", false)
  | 10 => ("MudSharesModel", "newNumbers", "I", false)
  | 11 => ("MudSharesModel", "newTracers", "I", false)
  | 12 => ("MudSharesModel", "figures", "I", false)
  | 13 => ("MudSharesModel", "newNow", "I", false)
  | 14 => ("MudSharesModel", "newAmounts", "[I", true)
  | 15 => ("MudSharesModel", "many", "I", false)
  | 16 => ("MudSharesModel", "memberAt", "[I", true)
  | 17 => ("MudSharesModel", "below", "J", false)
  | 18 => ("MudSharesModel", "shareAbove", "[J", true)
  | 19 => ("MudSharesModel", "misfitAbove", "J", false)
  | 20 => ("MudSharesModel", "pairs", "[J", true)
  | 21 => ("MudSharesModel", "goals", "[J", true)
  | 22 => ("MudSharesModel", "bestSet", "I", false)
  | 23 => ("MudSharesModel", "corners", "I", false)
  | _ => ("MudSharesModel", "h", "J", false)
def tyX7 : Nat → FieldType := fun k => match k with
  | 0 => .int
  | 1 => .array .int
  | 2 => .int
  | 3 => .int
  | 4 => .array .int
  | 5 => .array .int
  | 6 => .array .int
  | 7 => .int
  | 8 => .int
  | 9 => .int
  | 10 => .int
  | 11 => .int
  | 12 => .int
  | 13 => .int
  | 14 => .array .int
  | 15 => .int
  | 16 => .array .int
  | 17 => .long
  | 18 => .array .long
  | 19 => .long
  | 20 => .array .long
  | 21 => .array .long
  | 22 => .int
  | 23 => .int
  | _ => .long
abbrev wsX70 : List Cond := u_ws RX7 TX7 25
theorem nmX7 : ∀ a, a < 25 → ∀ b, b < 25 → a ≠ b → (TX7 a).2.1 ≠ (TX7 b).2.1 := by decide +kernel
theorem tyX7_ok : ∀ k, k < 25 → parseFieldDescriptor (TX7 k).2.2.1 = some (tyX7 k) := by decide +kernel
abbrev cX7_init : ByteArray := prog_9_method_1_code
def yX7_init : MethodName := ⟨RX7, "<init>", "()V"⟩
abbrev cX7_within : ByteArray := prog_9_method_3_code
def yX7_within : MethodName := ⟨RX7, "within", "(III)Z"⟩
abbrev cX7_hasBit : ByteArray := prog_9_method_4_code
def yX7_hasBit : MethodName := ⟨RX7, "hasBit", "(II)Z"⟩
abbrev cX7_letter : ByteArray := prog_9_method_5_code
def yX7_letter : MethodName := ⟨RX7, "letter", "(I)J"⟩
abbrev cX7_blank : ByteArray := prog_9_method_6_code
def yX7_blank : MethodName := ⟨RX7, "blank", "()J"⟩
abbrev cX7_endNumber : ByteArray := prog_9_method_7_code
def yX7_endNumber : MethodName := ⟨RX7, "endNumber", "()V"⟩
abbrev cX7_takes : ByteArray := prog_9_method_8_code
def yX7_takes : MethodName := ⟨RX7, "takes", "(I)Z"⟩
abbrev cX7_goAlong : ByteArray := prog_9_method_9_code
def yX7_goAlong : MethodName := ⟨RX7, "goAlong", "()I"⟩
abbrev cX7_fault : ByteArray := prog_9_method_10_code
def yX7_fault : MethodName := ⟨RX7, "fault", "()J"⟩
abbrev cX7_sources : ByteArray := prog_9_method_11_code
def yX7_sources : MethodName := ⟨RX7, "sources", "()J"⟩
abbrev cX7_isSource : ByteArray := prog_9_method_12_code
def yX7_isSource : MethodName := ⟨RX7, "isSource", "(I)Z"⟩
abbrev cX7_isTracer : ByteArray := prog_9_method_13_code
def yX7_isTracer : MethodName := ⟨RX7, "isTracer", "(I)Z"⟩
abbrev cX7_set : ByteArray := prog_9_method_14_code
def yX7_set : MethodName := ⟨RX7, "set", "(III)J"⟩
abbrev cX7_alter : ByteArray := prog_9_method_15_code
def yX7_alter : MethodName := ⟨RX7, "alter", "(III)J"⟩
abbrev cX7_sumBy : ByteArray := prog_9_method_16_code
def yX7_sumBy : MethodName := ⟨RX7, "sumBy", "(II)I"⟩
abbrev cX7_made : ByteArray := prog_9_method_17_code
def yX7_made : MethodName := ⟨RX7, "made", "(I)J"⟩
abbrev cX7_hasNow : ByteArray := prog_9_method_18_code
def yX7_hasNow : MethodName := ⟨RX7, "hasNow", "(II)J"⟩
abbrev cX7_has : ByteArray := prog_9_method_19_code
def yX7_has : MethodName := ⟨RX7, "has", "(II)J"⟩
abbrev cX7_tracer : ByteArray := prog_9_method_20_code
def yX7_tracer : MethodName := ⟨RX7, "tracer", "(II)J"⟩
abbrev cX7_isUsed : ByteArray := prog_9_method_21_code
def yX7_isUsed : MethodName := ⟨RX7, "isUsed", "(I)Z"⟩
abbrev cX7_areAlike : ByteArray := prog_9_method_22_code
def yX7_areAlike : MethodName := ⟨RX7, "areAlike", "(III)Z"⟩
abbrev cX7_alikeOf : ByteArray := prog_9_method_23_code
def yX7_alikeOf : MethodName := ⟨RX7, "alikeOf", "(II)I"⟩
abbrev cX7_alike : ByteArray := prog_9_method_24_code
def yX7_alike : MethodName := ⟨RX7, "alike", "(II)J"⟩
abbrev cX7_apart : ByteArray := prog_9_method_25_code
def yX7_apart : MethodName := ⟨RX7, "apart", "(II)J"⟩
abbrev cX7_short0 : ByteArray := prog_9_method_26_code
def yX7_short0 : MethodName := ⟨RX7, "short0", "(I)J"⟩
abbrev cX7_layPairs : ByteArray := prog_9_method_27_code
def yX7_layPairs : MethodName := ⟨RX7, "layPairs", "(I)V"⟩
abbrev cX7_cell : ByteArray := prog_9_method_28_code
def yX7_cell : MethodName := ⟨RX7, "cell", "(III)J"⟩
abbrev cX7_determinant : ByteArray := prog_9_method_29_code
def yX7_determinant : MethodName := ⟨RX7, "determinant", "(I)J"⟩
abbrev cX7_laySet : ByteArray := prog_9_method_30_code
def yX7_laySet : MethodName := ⟨RX7, "laySet", "(II)V"⟩
abbrev cX7_isGood : ByteArray := prog_9_method_31_code
def yX7_isGood : MethodName := ⟨RX7, "isGood", "()Z"⟩
abbrev cX7_compare : ByteArray := prog_9_method_32_code
def yX7_compare : MethodName := ⟨RX7, "compare", "(JJJJ)I"⟩
abbrev cX7_ones : ByteArray := prog_9_method_33_code
def yX7_ones : MethodName := ⟨RX7, "ones", "(I)I"⟩
abbrev cX7_layBest : ByteArray := prog_9_method_34_code
def yX7_layBest : MethodName := ⟨RX7, "layBest", "(I)V"⟩
abbrev cX7_divisor : ByteArray := prog_9_method_35_code
def yX7_divisor : MethodName := ⟨RX7, "divisor", "(JJ)J"⟩
abbrev cX7_lowest : ByteArray := prog_9_method_36_code
def yX7_lowest : MethodName := ⟨RX7, "lowest", "(JJI)J"⟩
abbrev cX7_bestNow : ByteArray := prog_9_method_37_code
def yX7_bestNow : MethodName := ⟨RX7, "bestNow", "(I)J"⟩
abbrev cX7_best : ByteArray := prog_9_method_38_code
def yX7_best : MethodName := ⟨RX7, "best", "(II)J"⟩
abbrev cX7_shareNow : ByteArray := prog_9_method_39_code
def yX7_shareNow : MethodName := ⟨RX7, "shareNow", "(II)J"⟩
abbrev cX7_share : ByteArray := prog_9_method_40_code
def yX7_share : MethodName := ⟨RX7, "share", "(III)J"⟩
abbrev cX7_mixedAbove : ByteArray := prog_9_method_41_code
def yX7_mixedAbove : MethodName := ⟨RX7, "mixedAbove", "(I)J"⟩
abbrev cX7_pressNow : ByteArray := prog_9_method_42_code
def yX7_pressNow : MethodName := ⟨RX7, "pressNow", "(III)J"⟩
abbrev cX7_press : ByteArray := prog_9_method_43_code
def yX7_press : MethodName := ⟨RX7, "press", "(III)J"⟩
abbrev cX7_mixed : ByteArray := prog_9_method_44_code
def yX7_mixed : MethodName := ⟨RX7, "mixed", "(III)J"⟩
abbrev cX7_corner : ByteArray := prog_9_method_45_code
def yX7_corner : MethodName := ⟨RX7, "corner", "(III)J"⟩
abbrev cX7_howMany : ByteArray := prog_9_method_46_code
def yX7_howMany : MethodName := ⟨RX7, "howMany", "(I)J"⟩
abbrev cX7_count : ByteArray := prog_9_method_47_code
def yX7_count : MethodName := ⟨RX7, "count", "(I)J"⟩
abbrev cX7_mix : ByteArray := prog_9_method_48_code
def yX7_mix : MethodName := ⟨RX7, "mix", "(J)V"⟩
abbrev cX7_mixBy : ByteArray := prog_9_method_49_code
def yX7_mixBy : MethodName := ⟨RX7, "mixBy", "(I)V"⟩
abbrev cX7_digest : ByteArray := prog_9_method_50_code
def yX7_digest : MethodName := ⟨RX7, "digest", "()J"⟩
def RJ6 : String := "java/lang/Integer"
def TJ6 : u_T := fun k => match k with
  | _ => ("", "", "", false)
def tyJ6 : Nat → FieldType := fun k => match k with
  | _ => .int
theorem nmJ6 : ∀ a, a < 0 → ∀ b, b < 0 → a ≠ b → (TJ6 a).2.1 ≠ (TJ6 b).2.1 := by decide +kernel
theorem tyJ6_ok : ∀ k, k < 0 → parseFieldDescriptor (TJ6 k).2.2.1 = some (tyJ6 k) := by decide +kernel
abbrev cJ6_bitCount_0f7a4 : ByteArray := prog_10_method_49_code
def yJ6_bitCount_0f7a4 : MethodName := ⟨RJ6, "bitCount", "(I)I"⟩
def RJ13 : String := "java/lang/Long"
def TJ13 : u_T := fun k => match k with
  | _ => ("", "", "", false)
def tyJ13 : Nat → FieldType := fun k => match k with
  | _ => .int
theorem nmJ13 : ∀ a, a < 0 → ∀ b, b < 0 → a ≠ b → (TJ13 a).2.1 ≠ (TJ13 b).2.1 := by decide +kernel
theorem tyJ13_ok : ∀ k, k < 0 → parseFieldDescriptor (TJ13 k).2.2.1 = some (tyJ13 k) := by decide +kernel
abbrev cJ13_compare_74951 : ByteArray := prog_11_method_42_code
def yJ13_compare_74951 : MethodName := ⟨RJ13, "compare", "(JJ)I"⟩
def RJ9 : String := "java/lang/Math"
def TJ9 : u_T := fun k => match k with
  | _ => ("", "", "", false)
def tyJ9 : Nat → FieldType := fun k => match k with
  | _ => .int
theorem nmJ9 : ∀ a, a < 0 → ∀ b, b < 0 → a ≠ b → (TJ9 a).2.1 ≠ (TJ9 b).2.1 := by decide +kernel
theorem tyJ9_ok : ∀ k, k < 0 → parseFieldDescriptor (TJ9 k).2.2.1 = some (tyJ9 k) := by decide +kernel
abbrev cJ9_abs_067f4 : ByteArray := prog_12_method_61_code
def yJ9_abs_067f4 : MethodName := ⟨RJ9, "abs", "(J)J"⟩
def RL : String := "MudSharesLaw"
abbrev cL_law : ByteArray := code
def yL_law : MethodName := ⟨RL, "law", "([I)Z"⟩
def wsL_law_r1 : List Cond := [Cond.classLink RL 7 RX6, Cond.instantiable RX6 7, Cond.initialized RX6, Cond.classLink RL 10 RX7, Cond.instantiable RX7 25, Cond.initialized RX7, Cond.methodLink RL 9 yX6_init, Cond.instanceMethod yX6_init, Cond.code yX6_init cX6_init 1 none, Cond.methodLink RX6 3 objectInit, Cond.instanceMethod objectInit, Cond.code objectInit ⟨#[0xb1]⟩ 1 none, Cond.classLink RX6 9 RX4, Cond.instantiable RX4 2, Cond.initialized RX4, Cond.fieldLink RX6 12 "MudShares" "page" "LMudShares$Page;", Cond.classLink RX6 16 RX5, Cond.instantiable RX5 5, Cond.initialized RX5, Cond.fieldLink RX6 19 "MudShares" "reader" "LMudShares$Reader;", Cond.classLink RX6 23 RX2, Cond.instantiable RX2 4, Cond.initialized RX2, Cond.fieldLink RX6 26 "MudShares" "mud" "LMudShares$Mud;"]
def wsL_law_r2 : List Cond := [Cond.classLink RX6 30 RX3, Cond.instantiable RX3 5, Cond.initialized RX3, Cond.fieldLink RX6 35 "MudShares" "nearest" "LMudShares$Nearest;", Cond.classLink RX6 39 RX1, Cond.instantiable RX1 2, Cond.initialized RX1, Cond.fieldLink RX6 42 "MudShares" "told" "LMudShares$Fraction;", Cond.methodLink RX6 11 yX4_init, Cond.instanceMethod yX4_init, Cond.code yX4_init cX4_init 1 none, Cond.methodLink RX4 3 objectInit, Cond.arrayClass .int, Cond.fieldLink RX4 9 "MudShares$Page" "codes" "[I", Cond.methodLink RX6 18 yX5_init, Cond.instanceMethod yX5_init, Cond.code yX5_init cX5_init 1 none, Cond.methodLink RX5 3 objectInit, Cond.fieldLink RX5 9 "MudShares$Reader" "draft" "[I", Cond.methodLink RX6 25 yX2_init, Cond.instanceMethod yX2_init, Cond.code yX2_init cX2_init 1 none, Cond.methodLink RX2 3 objectInit, Cond.fieldLink RX2 9 "MudShares$Mud" "held" "[I"]
def wsL_law_r3 : List Cond := [Cond.fieldLink RX2 15 "MudShares$Mud" "weights" "[I", Cond.methodLink RX6 32 yX3_init, Cond.instanceMethod yX3_init, Cond.code yX3_init cX3_init 2 none, Cond.methodLink RX3 1 objectInit, Cond.fieldLink RX3 7 "MudShares$Nearest" "mud" "LMudShares$Mud;", Cond.classLink RX3 13 RX0, Cond.instantiable RX0 9, Cond.initialized RX0, Cond.fieldLink RX3 18 "MudShares$Nearest" "fit" "LMudShares$Fit;", Cond.classLink RX3 22 RX1, Cond.fieldLink RX3 25 "MudShares$Nearest" "misfit" "LMudShares$Fraction;", Cond.methodLink RX3 15 yX0_init, Cond.instanceMethod yX0_init, Cond.code yX0_init cX0_init 2 none, Cond.methodLink RX0 3 objectInit, Cond.fieldLink RX0 9 "MudShares$Fit" "mud" "LMudShares$Mud;", Cond.arrayClass .long, Cond.fieldLink RX0 15 "MudShares$Fit" "products" "[J", Cond.fieldLink RX0 19 "MudShares$Fit" "matrix" "[J", Cond.fieldLink RX0 22 "MudShares$Fit" "side" "[J", Cond.fieldLink RX0 25 "MudShares$Fit" "parts" "[J", Cond.classLink RX0 28 RX1, Cond.fieldLink RX0 31 "MudShares$Fit" "misfit" "LMudShares$Fraction;"]
def wsL_law_r4 : List Cond := [Cond.methodLink RX0 30 yX1_init, Cond.instanceMethod yX1_init, Cond.code yX1_init cX1_init 1 none, Cond.methodLink RX1 3 objectInit, Cond.fieldLink RX1 9 "MudShares$Fraction" "above" "J", Cond.fieldLink RX1 15 "MudShares$Fraction" "below" "J", Cond.methodLink RX3 24 yX1_init, Cond.methodLink RX6 41 yX1_init, Cond.methodLink RL 12 yX7_init, Cond.instanceMethod yX7_init, Cond.code yX7_init cX7_init 1 none, Cond.methodLink RX7 1 objectInit, Cond.fieldLink RX7 7 "MudSharesModel" "page" "[I", Cond.fieldLink RX7 13 "MudSharesModel" "amountIn" "[I", Cond.fieldLink RX7 16 "MudSharesModel" "wanted" "[I", Cond.fieldLink RX7 19 "MudSharesModel" "weightOf" "[I", Cond.fieldLink RX7 22 "MudSharesModel" "newAmounts" "[I", Cond.fieldLink RX7 25 "MudSharesModel" "memberAt" "[I", Cond.fieldLink RX7 28 "MudSharesModel" "shareAbove" "[J", Cond.fieldLink RX7 32 "MudSharesModel" "pairs" "[J", Cond.fieldLink RX7 35 "MudSharesModel" "goals" "[J", Cond.methodLink RL 13 yX6_letter, Cond.instanceMethod yX6_letter, Cond.selects RX6 yX6_letter yX6_letter]
def wsL_law_r5 : List Cond := [Cond.code yX6_letter cX6_letter 2 (some .long), Cond.constantLong RX6 46 (-1000003), Cond.constantLong RX6 52 (-1000005), Cond.fieldLink RX6 58 "MudShares$Page" "length" "I", Cond.methodLink RX6 48 yX4_isFull, Cond.instanceMethod yX4_isFull, Cond.selects RX4 yX4_isFull yX4_isFull, Cond.code yX4_isFull cX4_isFull 1 (some .boolean), Cond.fieldLink RX4 15 "MudShares$Page" "length" "I", Cond.methodLink RX6 54 yX4_append, Cond.instanceMethod yX4_append, Cond.selects RX4 yX4_append yX4_append, Cond.code yX4_append cX4_append 2 none, Cond.methodLink RL 17 yX7_letter, Cond.instanceMethod yX7_letter, Cond.selects RX7 yX7_letter yX7_letter, Cond.code yX7_letter cX7_letter 2 (some .long), Cond.constantLong RX7 42 (-1000003), Cond.fieldLink RX7 44 "MudSharesModel" "pageLength" "I", Cond.constantLong RX7 48 (-1000005), Cond.methodLink RX7 38 yX7_within, Cond.static yX7_within, Cond.code yX7_within cX7_within 3 (some .boolean), Cond.methodLink RL 18 yX6_blank]
def wsL_law_r6 : List Cond := [Cond.instanceMethod yX6_blank, Cond.selects RX6 yX6_blank yX6_blank, Cond.code yX6_blank cX6_blank 3 (some .long), Cond.methodLink RX6 62 yX4_empty, Cond.instanceMethod yX4_empty, Cond.selects RX4 yX4_empty yX4_empty, Cond.code yX4_empty cX4_empty 1 none, Cond.methodLink RL 22 yX7_blank, Cond.instanceMethod yX7_blank, Cond.selects RX7 yX7_blank yX7_blank, Cond.code yX7_blank cX7_blank 2 (some .long), Cond.methodLink RL 23 yX6_fault, Cond.instanceMethod yX6_fault, Cond.selects RX6 yX6_fault yX6_fault, Cond.code yX6_fault cX6_fault 1 (some .long), Cond.methodLink RX6 65 yX5_read, Cond.instanceMethod yX5_read, Cond.selects RX5 yX5_read yX5_read, Cond.code yX5_read cX5_read 3 (some .int), Cond.fieldLink RX5 18 "MudShares$Page" "length" "I", Cond.methodLink RX5 15 yX5_start, Cond.instanceMethod yX5_start, Cond.selects RX5 yX5_start yX5_start, Cond.code yX5_start cX5_start 2 none]
def wsL_law_r7 : List Cond := [Cond.fieldLink RX5 42 "MudShares$Reader" "source" "I", Cond.fieldLink RX5 45 "MudShares$Reader" "tracer" "I", Cond.fieldLink RX5 48 "MudShares$Reader" "width" "I", Cond.fieldLink RX5 32 "MudShares$Reader" "number" "I", Cond.methodLink RX5 24 yX4_codeAt, Cond.instanceMethod yX4_codeAt, Cond.selects RX4 yX4_codeAt yX4_codeAt, Cond.code yX4_codeAt cX4_codeAt 2 (some .int), Cond.methodLink RX5 28 yX5_takes, Cond.instanceMethod yX5_takes, Cond.selects RX5 yX5_takes yX5_takes, Cond.code yX5_takes cX5_takes 2 (some .boolean), Cond.methodLink RX5 51 yX5_takesComma, Cond.instanceMethod yX5_takesComma, Cond.selects RX5 yX5_takesComma yX5_takesComma, Cond.code yX5_takesComma cX5_takesComma 2 (some .boolean), Cond.methodLink RX5 39 yX5_keepNumber, Cond.instanceMethod yX5_keepNumber, Cond.selects RX5 yX5_keepNumber yX5_keepNumber, Cond.code yX5_keepNumber cX5_keepNumber 2 none, Cond.methodLink RX5 54 yX5_takesSemicolon, Cond.instanceMethod yX5_takesSemicolon, Cond.selects RX5 yX5_takesSemicolon yX5_takesSemicolon, Cond.code yX5_takesSemicolon cX5_takesSemicolon 1 (some .boolean)]
def wsL_law_r8 : List Cond := [Cond.methodLink RX5 35 yX5_isLastTracer, Cond.instanceMethod yX5_isLastTracer, Cond.selects RX5 yX5_isLastTracer yX5_isLastTracer, Cond.code yX5_isLastTracer cX5_isLastTracer 1 (some .boolean), Cond.methodLink RX5 57 yX5_takesFigure, Cond.instanceMethod yX5_takesFigure, Cond.selects RX5 yX5_takesFigure yX5_takesFigure, Cond.code yX5_takesFigure cX5_takesFigure 3 (some .boolean), Cond.methodLink RL 26 yX7_fault, Cond.instanceMethod yX7_fault, Cond.selects RX7 yX7_fault yX7_fault, Cond.code yX7_fault cX7_fault 1 (some .long), Cond.methodLink RX7 72 yX7_goAlong, Cond.instanceMethod yX7_goAlong, Cond.selects RX7 yX7_goAlong yX7_goAlong, Cond.code yX7_goAlong cX7_goAlong 2 (some .int), Cond.fieldLink RX7 50 "MudSharesModel" "newSources" "I", Cond.fieldLink RX7 53 "MudSharesModel" "newNumbers" "I", Cond.fieldLink RX7 62 "MudSharesModel" "newTracers" "I", Cond.fieldLink RX7 59 "MudSharesModel" "figures" "I", Cond.fieldLink RX7 56 "MudSharesModel" "newNow" "I", Cond.methodLink RX7 68 yX7_takes, Cond.instanceMethod yX7_takes, Cond.selects RX7 yX7_takes yX7_takes]
def wsL_law_r9 : List Cond := [Cond.code yX7_takes cX7_takes 4 (some .boolean), Cond.methodLink RX7 65 yX7_endNumber, Cond.instanceMethod yX7_endNumber, Cond.selects RX7 yX7_endNumber yX7_endNumber, Cond.code yX7_endNumber cX7_endNumber 1 none, Cond.methodLink RL 27 yX6_sources, Cond.instanceMethod yX6_sources, Cond.selects RX6 yX6_sources yX6_sources, Cond.code yX6_sources cX6_sources 1 (some .long), Cond.constantLong RX6 72 (-1000004), Cond.fieldLink RX6 78 "MudShares" "timesRead" "J", Cond.fieldLink RX6 82 "MudShares$Mud" "sourceCount" "I", Cond.methodLink RX6 69 yX5_finish, Cond.instanceMethod yX5_finish, Cond.selects RX5 yX5_finish yX5_finish, Cond.code yX5_finish cX5_finish 1 (some .boolean), Cond.methodLink RX6 74 yX2_become, Cond.instanceMethod yX2_become, Cond.selects RX2 yX2_become yX2_become, Cond.code yX2_become cX2_become 4 none, Cond.fieldLink RX2 24 "MudShares$Mud" "sourceCount" "I", Cond.fieldLink RX2 31 "MudShares$Mud" "tracerCount" "I", Cond.methodLink RX2 18 yX5_sourcesRead, Cond.instanceMethod yX5_sourcesRead]
def wsL_law_r10 : List Cond := [Cond.selects RX5 yX5_sourcesRead yX5_sourcesRead, Cond.code yX5_sourcesRead cX5_sourcesRead 1 (some .int), Cond.methodLink RX2 28 yX5_tracersRead, Cond.instanceMethod yX5_tracersRead, Cond.selects RX5 yX5_tracersRead yX5_tracersRead, Cond.code yX5_tracersRead cX5_tracersRead 1 (some .int), Cond.methodLink RX2 34 yX5_draftOf, Cond.instanceMethod yX5_draftOf, Cond.selects RX5 yX5_draftOf yX5_draftOf, Cond.code yX5_draftOf cX5_draftOf 4 (some .int), Cond.methodLink RL 30 yX7_sources, Cond.instanceMethod yX7_sources, Cond.selects RX7 yX7_sources yX7_sources, Cond.code yX7_sources cX7_sources 2 (some .long), Cond.constantLong RX7 76 (-1000004), Cond.fieldLink RX7 78 "MudSharesModel" "sources" "I", Cond.fieldLink RX7 81 "MudSharesModel" "tracers" "I", Cond.fieldLink RX7 84 "MudSharesModel" "sourcesRead" "I", Cond.methodLink RL 31 yX6_set, Cond.instanceMethod yX6_set, Cond.selects RX6 yX6_set yX6_set, Cond.code yX6_set cX6_set 6 (some .long), Cond.constantLong RX6 89 (-1000002), Cond.fieldLink RX6 106 "MudShares" "timesAltered" "J"]
def wsL_law_r11 : List Cond := [Cond.methodLink RX6 85 yX2_isTracer, Cond.instanceMethod yX2_isTracer, Cond.selects RX2 yX2_isTracer yX2_isTracer, Cond.code yX2_isTracer cX2_isTracer 2 (some .boolean), Cond.methodLink RX6 91 yX6_isHeld, Cond.static yX6_isHeld, Cond.code yX6_isHeld cX6_isHeld 1 (some .boolean), Cond.methodLink RX6 94 yX6_putHeld, Cond.instanceMethod yX6_putHeld, Cond.selects RX6 yX6_putHeld yX6_putHeld, Cond.code yX6_putHeld cX6_putHeld 6 (some .long), Cond.methodLink RX6 132 yX2_heldOf, Cond.instanceMethod yX2_heldOf, Cond.selects RX2 yX2_heldOf yX2_heldOf, Cond.code yX2_heldOf cX2_heldOf 3 (some .int), Cond.methodLink RX2 44 yX2_isPlace, Cond.static yX2_isPlace, Cond.code yX2_isPlace cX2_isPlace 2 (some .boolean), Cond.methodLink RX6 129 yX2_putHeld, Cond.instanceMethod yX2_putHeld, Cond.selects RX2 yX2_putHeld yX2_putHeld, Cond.code yX2_putHeld cX2_putHeld 4 none, Cond.methodLink RX6 98 yX2_weightOf, Cond.instanceMethod yX2_weightOf]
def wsL_law_r12 : List Cond := [Cond.selects RX2 yX2_weightOf yX2_weightOf, Cond.code yX2_weightOf cX2_weightOf 2 (some .int), Cond.methodLink RX6 102 yX2_putWeight, Cond.instanceMethod yX2_putWeight, Cond.selects RX2 yX2_putWeight yX2_putWeight, Cond.code yX2_putWeight cX2_putWeight 3 none, Cond.methodLink RL 35 yX7_set, Cond.instanceMethod yX7_set, Cond.selects RX7 yX7_set yX7_set, Cond.code yX7_set cX7_set 6 (some .long), Cond.constantLong RX7 90 (-1000002), Cond.fieldLink RX7 92 "MudSharesModel" "altered" "I", Cond.methodLink RX7 87 yX7_isTracer, Cond.instanceMethod yX7_isTracer, Cond.selects RX7 yX7_isTracer yX7_isTracer, Cond.code yX7_isTracer cX7_isTracer 2 (some .boolean), Cond.methodLink RL 36 yX6_alter, Cond.instanceMethod yX6_alter, Cond.selects RX6 yX6_alter yX6_alter, Cond.code yX6_alter cX6_alter 4 (some .long), Cond.methodLink RX6 109 yX2_isSource, Cond.instanceMethod yX2_isSource, Cond.selects RX2 yX2_isSource yX2_isSource, Cond.code yX2_isSource cX2_isSource 2 (some .boolean)]
def wsL_law_r13 : List Cond := [Cond.methodLink RL 39 yX7_alter, Cond.instanceMethod yX7_alter, Cond.selects RX7 yX7_alter yX7_alter, Cond.code yX7_alter cX7_alter 5 (some .long), Cond.methodLink RX7 95 yX7_isSource, Cond.instanceMethod yX7_isSource, Cond.selects RX7 yX7_isSource yX7_isSource, Cond.code yX7_isSource cX7_isSource 2 (some .boolean), Cond.methodLink RL 40 yX6_made, Cond.instanceMethod yX6_made, Cond.selects RX6 yX6_made yX6_made, Cond.code yX6_made cX6_made 4 (some .long), Cond.methodLink RX6 112 yX6_powerOfTen, Cond.static yX6_powerOfTen, Cond.code yX6_powerOfTen cX6_powerOfTen 3 (some .int), Cond.methodLink RX6 115 yX6_figureSum, Cond.static yX6_figureSum, Cond.code yX6_figureSum cX6_figureSum 4 (some .int), Cond.methodLink RX6 118 yX2_heldByParts, Cond.instanceMethod yX2_heldByParts, Cond.selects RX2 yX2_heldByParts yX2_heldByParts, Cond.code yX2_heldByParts cX2_heldByParts 6 (some .int), Cond.methodLink RX2 48 yX2_heldOf, Cond.methodLink RX6 122 yX6_isMultiple]
def wsL_law_r14 : List Cond := [Cond.static yX6_isMultiple, Cond.code yX6_isMultiple cX6_isMultiple 2 (some .boolean), Cond.methodLink RX6 126 yX6_quotient, Cond.static yX6_quotient, Cond.code yX6_quotient cX6_quotient 2 (some .int), Cond.methodLink RL 43 yX7_made, Cond.instanceMethod yX7_made, Cond.selects RX7 yX7_made yX7_made, Cond.code yX7_made cX7_made 5 (some .long), Cond.methodLink RX7 98 yX7_sumBy, Cond.instanceMethod yX7_sumBy, Cond.selects RX7 yX7_sumBy yX7_sumBy, Cond.code yX7_sumBy cX7_sumBy 6 (some .int), Cond.methodLink RL 44 yX6_has, Cond.instanceMethod yX6_has, Cond.selects RX6 yX6_has yX6_has, Cond.code yX6_has cX6_has 3 (some .long), Cond.constantLong RX6 135 (-1000001), Cond.methodLink RL 48 yX7_has, Cond.instanceMethod yX7_has, Cond.selects RX7 yX7_has yX7_has, Cond.code yX7_has cX7_has 3 (some .long), Cond.methodLink RX7 104 yX7_hasNow, Cond.instanceMethod yX7_hasNow]
def wsL_law_r15 : List Cond := [Cond.selects RX7 yX7_hasNow yX7_hasNow, Cond.code yX7_hasNow cX7_hasNow 3 (some .long), Cond.constantLong RX7 102 (-1000001), Cond.methodLink RL 49 yX6_tracer, Cond.instanceMethod yX6_tracer, Cond.selects RX6 yX6_tracer yX6_tracer, Cond.code yX6_tracer cX6_tracer 3 (some .long), Cond.methodLink RL 52 yX7_tracer, Cond.instanceMethod yX7_tracer, Cond.selects RX7 yX7_tracer yX7_tracer, Cond.code yX7_tracer cX7_tracer 3 (some .long), Cond.methodLink RL 53 yX6_alike, Cond.instanceMethod yX6_alike, Cond.selects RX6 yX6_alike yX6_alike, Cond.code yX6_alike cX6_alike 3 (some .long), Cond.methodLink RX6 137 yX2_isUsed, Cond.instanceMethod yX2_isUsed, Cond.selects RX2 yX2_isUsed yX2_isUsed, Cond.code yX2_isUsed cX2_isUsed 2 (some .boolean), Cond.methodLink RX2 41 yX2_allTracers, Cond.instanceMethod yX2_allTracers, Cond.selects RX2 yX2_allTracers yX2_allTracers, Cond.code yX2_allTracers cX2_allTracers 1 (some .int), Cond.methodLink RX6 140 yX2_firstAlike]
def wsL_law_r16 : List Cond := [Cond.instanceMethod yX2_firstAlike, Cond.selects RX2 yX2_firstAlike yX2_firstAlike, Cond.code yX2_firstAlike cX2_firstAlike 4 (some .int), Cond.methodLink RX2 51 yX2_areAlike, Cond.instanceMethod yX2_areAlike, Cond.selects RX2 yX2_areAlike yX2_areAlike, Cond.code yX2_areAlike cX2_areAlike 5 (some .boolean), Cond.static yX6_isIn, Cond.code yX6_isIn cX6_isIn 2 (some .boolean), Cond.methodLink RL 56 yX7_alike, Cond.instanceMethod yX7_alike, Cond.selects RX7 yX7_alike yX7_alike, Cond.code yX7_alike cX7_alike 3 (some .long), Cond.methodLink RX7 115 yX7_isUsed, Cond.instanceMethod yX7_isUsed, Cond.selects RX7 yX7_isUsed yX7_isUsed, Cond.code yX7_isUsed cX7_isUsed 2 (some .boolean), Cond.methodLink RX7 118 yX7_alikeOf, Cond.instanceMethod yX7_alikeOf, Cond.selects RX7 yX7_alikeOf yX7_alikeOf, Cond.code yX7_alikeOf cX7_alikeOf 5 (some .int), Cond.methodLink RX7 112 yX7_areAlike, Cond.instanceMethod yX7_areAlike, Cond.selects RX7 yX7_areAlike yX7_areAlike]
def wsL_law_r17 : List Cond := [Cond.code yX7_areAlike cX7_areAlike 6 (some .boolean), Cond.methodLink RX7 108 yX7_hasBit, Cond.static yX7_hasBit, Cond.code yX7_hasBit cX7_hasBit 2 (some .boolean), Cond.methodLink RL 57 yX6_best, Cond.instanceMethod yX6_best, Cond.selects RX6 yX6_best yX6_best, Cond.code yX6_best cX6_best 3 (some .long), Cond.methodLink RX6 143 yX3_find, Cond.instanceMethod yX3_find, Cond.selects RX3 yX3_find yX3_find, Cond.code yX3_find cX3_find 4 none, Cond.fieldLink RX3 29 "MudShares$Nearest" "set" "I", Cond.fieldLink RX3 33 "MudShares$Nearest" "corners" "I", Cond.methodLink RX3 36 yX0_weigh, Cond.instanceMethod yX0_weigh, Cond.selects RX0 yX0_weigh yX0_weigh, Cond.code yX0_weigh cX0_weigh 4 none, Cond.methodLink RX0 35 yX2_product, Cond.instanceMethod yX2_product, Cond.selects RX2 yX2_product yX2_product, Cond.code yX2_product cX2_product 7 (some .long), Cond.methodLink RX2 58 yX2_weightOf, Cond.methodLink RX3 40 yX2_allSources]
def wsL_law_r18 : List Cond := [Cond.instanceMethod yX2_allSources, Cond.selects RX2 yX2_allSources yX2_allSources, Cond.code yX2_allSources cX2_allSources 1 (some .int), Cond.methodLink RX3 46 yX0_solve, Cond.instanceMethod yX0_solve, Cond.selects RX0 yX0_solve yX0_solve, Cond.code yX0_solve cX0_solve 2 none, Cond.fieldLink RX0 41 "MudShares$Fit" "set" "I", Cond.fieldLink RX0 49 "MudShares$Fit" "base" "I", Cond.fieldLink RX0 59 "MudShares$Fit" "below" "J", Cond.methodLink RX0 45 yX0_firstOf, Cond.static yX0_firstOf, Cond.code yX0_firstOf cX0_firstOf 2 (some .int), Cond.methodLink RX0 52 yX0_writeEquations, Cond.instanceMethod yX0_writeEquations, Cond.selects RX0 yX0_writeEquations yX0_writeEquations, Cond.code yX0_writeEquations cX0_writeEquations 7 none, Cond.methodLink RX0 89 yX0_otherAt, Cond.instanceMethod yX0_otherAt, Cond.selects RX0 yX0_otherAt yX0_otherAt, Cond.code yX0_otherAt cX0_otherAt 2 (some .int), Cond.methodLink RX0 81 yX0_fromBase, Cond.instanceMethod yX0_fromBase, Cond.selects RX0 yX0_fromBase yX0_fromBase]
def wsL_law_r19 : List Cond := [Cond.code yX0_fromBase cX0_fromBase 3 (some .long), Cond.methodLink RX0 106 yX0_productOf, Cond.instanceMethod yX0_productOf, Cond.selects RX0 yX0_productOf yX0_productOf, Cond.code yX0_productOf cX0_productOf 4 (some .long), Cond.methodLink RX0 55 yX0_determinant, Cond.instanceMethod yX0_determinant, Cond.selects RX0 yX0_determinant yX0_determinant, Cond.code yX0_determinant cX0_determinant 4 (some .long), Cond.methodLink RX0 92 yX0_cofactor, Cond.instanceMethod yX0_cofactor, Cond.selects RX0 yX0_cofactor yX0_cofactor, Cond.code yX0_cofactor cX0_cofactor 3 (some .long), Cond.methodLink RX0 103 yX0_entry, Cond.instanceMethod yX0_entry, Cond.selects RX0 yX0_entry yX0_entry, Cond.code yX0_entry cX0_entry 4 (some .long), Cond.methodLink RX0 63 yX0_solveParts, Cond.instanceMethod yX0_solveParts, Cond.selects RX0 yX0_solveParts yX0_solveParts, Cond.code yX0_solveParts cX0_solveParts 7 none, Cond.methodLink RX0 95 yX0_putPart, Cond.instanceMethod yX0_putPart, Cond.selects RX0 yX0_putPart yX0_putPart]
def wsL_law_r20 : List Cond := [Cond.code yX0_putPart cX0_putPart 4 none, Cond.methodLink RX0 66 yX0_misfitAbove, Cond.instanceMethod yX0_misfitAbove, Cond.selects RX0 yX0_misfitAbove yX0_misfitAbove, Cond.code yX0_misfitAbove cX0_misfitAbove 4 (some .long), Cond.methodLink RX0 99 yX0_partOf, Cond.instanceMethod yX0_partOf, Cond.selects RX0 yX0_partOf yX0_partOf, Cond.code yX0_partOf cX0_partOf 2 (some .long), Cond.methodLink RX0 69 yX1_put, Cond.instanceMethod yX1_put, Cond.selects RX1 yX1_put yX1_put, Cond.code yX1_put cX1_put 7 none, Cond.methodLink RX1 18 Lib.MathLoose.abs_long.x, Cond.static Lib.MathLoose.abs_long.x, Cond.initialized "java/lang/Math", Cond.code Lib.MathLoose.abs_long.x Lib.MathLoose.abs_long.code 2 (some .long), Cond.methodLink RX1 24 yX1_commonDivisor, Cond.static yX1_commonDivisor, Cond.code yX1_commonDivisor cX1_commonDivisor 11 (some .long), Cond.methodLink RX3 49 yX0_isGood, Cond.instanceMethod yX0_isGood, Cond.selects RX0 yX0_isGood yX0_isGood, Cond.code yX0_isGood cX0_isGood 2 (some .boolean)]
def wsL_law_r21 : List Cond := [Cond.methodLink RX0 77 yX0_isOnly, Cond.instanceMethod yX0_isOnly, Cond.selects RX0 yX0_isOnly yX0_isOnly, Cond.code yX0_isOnly cX0_isOnly 1 (some .boolean), Cond.methodLink RX3 53 yX3_weighUp, Cond.instanceMethod yX3_weighUp, Cond.selects RX3 yX3_weighUp yX3_weighUp, Cond.code yX3_weighUp cX3_weighUp 4 none, Cond.fieldLink RX3 56 "MudShares$Fit" "misfit" "LMudShares$Fraction;", Cond.methodLink RX3 57 yX1_against, Cond.instanceMethod yX1_against, Cond.selects RX1 yX1_against yX1_against, Cond.code yX1_against cX1_against 17 (some .int), Cond.methodLink RX1 28 yJ13_compare_74951, Cond.static yJ13_compare_74951, Cond.initialized RJ13, Cond.code yJ13_compare_74951 cJ13_compare_74951 4 (some .int), Cond.methodLink RX3 61 yJ6_bitCount_0f7a4, Cond.static yJ6_bitCount_0f7a4, Cond.initialized RJ6, Cond.code yJ6_bitCount_0f7a4 cJ6_bitCount_0f7a4 1 (some .int), Cond.constant RJ6 265 (1431655765), Cond.constant RJ6 266 (858993459), Cond.constant RJ6 267 (252645135)]
def wsL_law_r22 : List Cond := [Cond.methodLink RX3 67 yX1_copy, Cond.instanceMethod yX1_copy, Cond.selects RX1 yX1_copy yX1_copy, Cond.code yX1_copy cX1_copy 2 none, Cond.methodLink RX6 146 yX6_ofNearest, Cond.instanceMethod yX6_ofNearest, Cond.selects RX6 yX6_ofNearest yX6_ofNearest, Cond.code yX6_ofNearest cX6_ofNearest 2 (some .long), Cond.fieldLink RX6 221 "MudShares$Nearest" "set" "I", Cond.fieldLink RX6 224 "MudShares$Nearest" "misfit" "LMudShares$Fraction;", Cond.fieldLink RX6 225 "MudShares$Fraction" "above" "J", Cond.fieldLink RX6 228 "MudShares$Fraction" "below" "J", Cond.fieldLink RX6 231 "MudShares$Nearest" "corners" "I", Cond.methodLink RL 60 yX7_best, Cond.instanceMethod yX7_best, Cond.selects RX7 yX7_best yX7_best, Cond.code yX7_best cX7_best 3 (some .long), Cond.methodLink RX7 179 yX7_layBest, Cond.instanceMethod yX7_layBest, Cond.selects RX7 yX7_layBest yX7_layBest, Cond.code yX7_layBest cX7_layBest 8 none, Cond.fieldLink RX7 149 "MudSharesModel" "bestSet" "I", Cond.fieldLink RX7 152 "MudSharesModel" "corners" "I", Cond.fieldLink RX7 146 "MudSharesModel" "misfitAbove" "J"]
def wsL_law_r23 : List Cond := [Cond.fieldLink RX7 142 "MudSharesModel" "below" "J", Cond.methodLink RX7 155 yX7_laySet, Cond.instanceMethod yX7_laySet, Cond.selects RX7 yX7_laySet yX7_laySet, Cond.code yX7_laySet cX7_laySet 8 none, Cond.fieldLink RX7 121 "MudSharesModel" "many" "I", Cond.methodLink RX7 135 yX7_layPairs, Cond.instanceMethod yX7_layPairs, Cond.selects RX7 yX7_layPairs yX7_layPairs, Cond.code yX7_layPairs cX7_layPairs 7 none, Cond.methodLink RX7 124 yX7_apart, Cond.instanceMethod yX7_apart, Cond.selects RX7 yX7_apart yX7_apart, Cond.code yX7_apart cX7_apart 3 (some .long), Cond.methodLink RX7 127 yX7_short0, Cond.instanceMethod yX7_short0, Cond.selects RX7 yX7_short0 yX7_short0, Cond.code yX7_short0 cX7_short0 2 (some .long), Cond.methodLink RX7 139 yX7_determinant, Cond.instanceMethod yX7_determinant, Cond.selects RX7 yX7_determinant yX7_determinant, Cond.code yX7_determinant cX7_determinant 7 (some .long), Cond.methodLink RX7 131 yX7_cell, Cond.instanceMethod yX7_cell]
def wsL_law_r24 : List Cond := [Cond.selects RX7 yX7_cell yX7_cell, Cond.code yX7_cell cX7_cell 4 (some .long), Cond.methodLink RX7 159 yX7_isGood, Cond.instanceMethod yX7_isGood, Cond.selects RX7 yX7_isGood yX7_isGood, Cond.code yX7_isGood cX7_isGood 3 (some .boolean), Cond.methodLink RX7 163 yX7_compare, Cond.static yX7_compare, Cond.code yX7_compare cX7_compare 25 (some .int), Cond.methodLink RX7 167 yX7_ones, Cond.static yX7_ones, Cond.code yX7_ones cX7_ones 3 (some .int), Cond.methodLink RX7 182 yX7_bestNow, Cond.instanceMethod yX7_bestNow, Cond.selects RX7 yX7_bestNow yX7_bestNow, Cond.code yX7_bestNow cX7_bestNow 2 (some .long), Cond.methodLink RX7 175 yX7_lowest, Cond.static yX7_lowest, Cond.code yX7_lowest cX7_lowest 5 (some .long), Cond.methodLink RX7 171 yX7_divisor, Cond.static yX7_divisor, Cond.code yX7_divisor cX7_divisor 10 (some .long), Cond.methodLink RL 61 yX6_share, Cond.instanceMethod yX6_share]
def wsL_law_r25 : List Cond := [Cond.selects RX6 yX6_share yX6_share, Cond.code yX6_share cX6_share 4 (some .long), Cond.methodLink RX6 150 yX6_isPart, Cond.static yX6_isPart, Cond.code yX6_isPart cX6_isPart 1 (some .boolean), Cond.methodLink RX6 153 yX6_shareByNearest, Cond.instanceMethod yX6_shareByNearest, Cond.selects RX6 yX6_shareByNearest yX6_shareByNearest, Cond.code yX6_shareByNearest cX6_shareByNearest 4 (some .long), Cond.fieldLink RX6 166 "MudShares$Nearest" "fit" "LMudShares$Fit;", Cond.fieldLink RX6 237 "MudShares$Fit" "below" "J", Cond.methodLink RX6 234 yX0_partOf, Cond.methodLink RX6 238 yX1_put, Cond.methodLink RX6 187 yX1_part, Cond.instanceMethod yX1_part, Cond.selects RX1 yX1_part yX1_part, Cond.code yX1_part cX1_part 2 (some .long), Cond.methodLink RL 64 yX7_share, Cond.instanceMethod yX7_share, Cond.selects RX7 yX7_share yX7_share, Cond.code yX7_share cX7_share 4 (some .long), Cond.methodLink RX7 185 yX7_shareNow, Cond.instanceMethod yX7_shareNow, Cond.selects RX7 yX7_shareNow yX7_shareNow]
def wsL_law_r26 : List Cond := [Cond.code yX7_shareNow cX7_shareNow 3 (some .long), Cond.methodLink RL 65 yX6_press, Cond.instanceMethod yX6_press, Cond.selects RX6 yX6_press yX6_press, Cond.code yX6_press cX6_press 4 (some .long), Cond.methodLink RX6 157 yX6_pressByNearest, Cond.instanceMethod yX6_pressByNearest, Cond.selects RX6 yX6_pressByNearest yX6_pressByNearest, Cond.code yX6_pressByNearest cX6_pressByNearest 4 (some .long), Cond.methodLink RX6 242 yX0_pressAbove, Cond.instanceMethod yX0_pressAbove, Cond.selects RX0 yX0_pressAbove yX0_pressAbove, Cond.code yX0_pressAbove cX0_pressAbove 5 (some .long), Cond.methodLink RL 68 yX7_press, Cond.instanceMethod yX7_press, Cond.selects RX7 yX7_press yX7_press, Cond.code yX7_press cX7_press 4 (some .long), Cond.methodLink RX7 191 yX7_pressNow, Cond.instanceMethod yX7_pressNow, Cond.selects RX7 yX7_pressNow yX7_pressNow, Cond.code yX7_pressNow cX7_pressNow 9 (some .long), Cond.methodLink RX7 188 yX7_mixedAbove, Cond.instanceMethod yX7_mixedAbove, Cond.selects RX7 yX7_mixedAbove yX7_mixedAbove]
def wsL_law_r27 : List Cond := [Cond.code yX7_mixedAbove cX7_mixedAbove 5 (some .long), Cond.methodLink RL 69 yX6_mixed, Cond.instanceMethod yX6_mixed, Cond.selects RX6 yX6_mixed yX6_mixed, Cond.code yX6_mixed cX6_mixed 4 (some .long), Cond.methodLink RX6 160 yX6_mixedByNearest, Cond.instanceMethod yX6_mixedByNearest, Cond.selects RX6 yX6_mixedByNearest yX6_mixedByNearest, Cond.code yX6_mixedByNearest cX6_mixedByNearest 4 (some .long), Cond.methodLink RX6 245 yX0_mixedAbove, Cond.instanceMethod yX0_mixedAbove, Cond.selects RX0 yX0_mixedAbove yX0_mixedAbove, Cond.code yX0_mixedAbove cX0_mixedAbove 5 (some .long), Cond.methodLink RX0 85 yX2_heldOf, Cond.methodLink RL 72 yX7_mixed, Cond.instanceMethod yX7_mixed, Cond.selects RX7 yX7_mixed yX7_mixed, Cond.code yX7_mixed cX7_mixed 4 (some .long), Cond.methodLink RL 73 yX6_corner, Cond.instanceMethod yX6_corner, Cond.selects RX6 yX6_corner yX6_corner, Cond.code yX6_corner cX6_corner 5 (some .long), Cond.fieldLink RX6 184 "MudShares$Fit" "misfit" "LMudShares$Fraction;", Cond.methodLink RX6 163 yX2_isSet]
def wsL_law_r28 : List Cond := [Cond.instanceMethod yX2_isSet, Cond.selects RX2 yX2_isSet yX2_isSet, Cond.code yX2_isSet cX2_isSet 2 (some .boolean), Cond.methodLink RX2 38 yX2_allSources, Cond.methodLink RX6 170 yX0_weigh, Cond.methodLink RX6 175 yX0_solve, Cond.methodLink RX6 178 yX0_isGood, Cond.methodLink RX6 181 yX0_isOnly, Cond.methodLink RL 76 yX7_corner, Cond.instanceMethod yX7_corner, Cond.selects RX7 yX7_corner yX7_corner, Cond.code yX7_corner cX7_corner 4 (some .long), Cond.methodLink RL 77 yX6_count, Cond.instanceMethod yX6_count, Cond.selects RX6 yX6_count yX6_count, Cond.code yX6_count cX6_count 2 (some .long), Cond.fieldLink RX6 190 "MudShares$Mud" "tracerCount" "I", Cond.methodLink RL 80 yX7_count, Cond.instanceMethod yX7_count, Cond.selects RX7 yX7_count yX7_count, Cond.code yX7_count cX7_count 2 (some .long), Cond.methodLink RX7 194 yX7_howMany, Cond.instanceMethod yX7_howMany, Cond.selects RX7 yX7_howMany yX7_howMany]
def wsL_law_r29 : List Cond := [Cond.code yX7_howMany cX7_howMany 2 (some .long), Cond.methodLink RL 81 yX6_digest, Cond.instanceMethod yX6_digest, Cond.selects RX6 yX6_digest yX6_digest, Cond.code yX6_digest cX6_digest 5 (some .long), Cond.constantLong RX6 193 (1709), Cond.constantLong RX6 207 (31), Cond.methodLink RX6 195 yX6_digestOfMud, Cond.instanceMethod yX6_digestOfMud, Cond.selects RX6 yX6_digestOfMud yX6_digestOfMud, Cond.code yX6_digestOfMud cX6_digestOfMud 7 (some .long), Cond.methodLink RX6 215 yX6_has, Cond.methodLink RX6 218 yX6_tracer, Cond.methodLink RX6 199 yX2_allTracers, Cond.methodLink RX6 203 yX6_digestOfShares, Cond.instanceMethod yX6_digestOfShares, Cond.selects RX6 yX6_digestOfShares yX6_digestOfShares, Cond.code yX6_digestOfShares cX6_digestOfShares 7 (some .long), Cond.methodLink RX6 209 yX4_codeAt, Cond.methodLink RX6 212 yX6_count, Cond.methodLink RL 84 yX7_digest, Cond.instanceMethod yX7_digest, Cond.selects RX7 yX7_digest yX7_digest, Cond.code yX7_digest cX7_digest 3 (some .long)]
def wsL_law_r30 : List Cond := [Cond.constantLong RX7 206 (1709), Cond.fieldLink RX7 199 "MudSharesModel" "h" "J", Cond.methodLink RX7 202 yX7_mix, Cond.instanceMethod yX7_mix, Cond.selects RX7 yX7_mix yX7_mix, Cond.code yX7_mix cX7_mix 3 none, Cond.constantLong RX7 197 (31), Cond.methodLink RX7 208 yX7_mixBy, Cond.instanceMethod yX7_mixBy, Cond.selects RX7 yX7_mixBy yX7_mixBy, Cond.code yX7_mixBy cX7_mixBy 3 none]
def wsL_law : List Cond := (wsL_law_r1 ++ (wsL_law_r2 ++ (wsL_law_r3 ++ (wsL_law_r4 ++ (wsL_law_r5 ++ (wsL_law_r6 ++ (wsL_law_r7 ++ (wsL_law_r8 ++ (wsL_law_r9 ++ (wsL_law_r10 ++ (wsL_law_r11 ++ (wsL_law_r12 ++ (wsL_law_r13 ++ (wsL_law_r14 ++ (wsL_law_r15 ++ (wsL_law_r16 ++ (wsL_law_r17 ++ (wsL_law_r18 ++ (wsL_law_r19 ++ (wsL_law_r20 ++ (wsL_law_r21 ++ (wsL_law_r22 ++ (wsL_law_r23 ++ (wsL_law_r24 ++ (wsL_law_r25 ++ (wsL_law_r26 ++ (wsL_law_r27 ++ (wsL_law_r28 ++ (wsL_law_r29 ++ wsL_law_r30))))))))))))))))))))))))))))) ++ wsX60 ++ wsX70 ++ wsX40 ++ wsX50 ++ wsX20 ++ wsX30 ++ wsX10 ++ wsX00 ++ ([] : List Cond)
theorem inlX0 : ∀ w ∈ wsX00, w ∈ wsL_law := fun _ h => List.mem_append_left _ (List.mem_append_right _ h)
theorem inlX1 : ∀ w ∈ wsX10, w ∈ wsL_law := fun _ h => List.mem_append_left _ (List.mem_append_left _ (List.mem_append_right _ h))
theorem inlX2 : ∀ w ∈ wsX20, w ∈ wsL_law := fun _ h => List.mem_append_left _ (List.mem_append_left _ (List.mem_append_left _ (List.mem_append_left _ (List.mem_append_right _ h))))
theorem inlX3 : ∀ w ∈ wsX30, w ∈ wsL_law := fun _ h => List.mem_append_left _ (List.mem_append_left _ (List.mem_append_left _ (List.mem_append_right _ h)))
theorem inlX4 : ∀ w ∈ wsX40, w ∈ wsL_law := fun _ h => List.mem_append_left _ (List.mem_append_left _ (List.mem_append_left _ (List.mem_append_left _ (List.mem_append_left _ (List.mem_append_left _ (List.mem_append_right _ h))))))
theorem inlX5 : ∀ w ∈ wsX50, w ∈ wsL_law := fun _ h => List.mem_append_left _ (List.mem_append_left _ (List.mem_append_left _ (List.mem_append_left _ (List.mem_append_left _ (List.mem_append_right _ h)))))
theorem inlX6 : ∀ w ∈ wsX60, w ∈ wsL_law := fun _ h => List.mem_append_left _ (List.mem_append_left _ (List.mem_append_left _ (List.mem_append_left _ (List.mem_append_left _ (List.mem_append_left _ (List.mem_append_left _ (List.mem_append_left _ (List.mem_append_right _ h))))))))
theorem inlX7 : ∀ w ∈ wsX70, w ∈ wsL_law := fun _ h => List.mem_append_left _ (List.mem_append_left _ (List.mem_append_left _ (List.mem_append_left _ (List.mem_append_left _ (List.mem_append_left _ (List.mem_append_left _ (List.mem_append_right _ h)))))))
abbrev vwCl : List vw_C := [(RX0, TX0, 9), (RX1, TX1, 2), (RX2, TX2, 4), (RX3, TX3, 5), (RX4, TX4, 2), (RX5, TX5, 5), (RX6, TX6, 7), (RX7, TX7, 25)]
end
section
set_option maxRecDepth 20000 in
theorem wq_1 : ∀ w ∈ wsL_law_r1, w ∈ lw_tbl := fun w h => (goodIn_p wsL_law_r1 [67, 70] (by decide +kernel) (by decide +kernel) w h).1
set_option maxRecDepth 20000 in
theorem wq_2 : ∀ w ∈ wsL_law_r2, w ∈ lw_tbl := fun w h => (goodIn_p wsL_law_r2 [75, 91, 113] (by decide +kernel) (by decide +kernel) w h).1
set_option maxRecDepth 20000 in
theorem wq_3 : ∀ w ∈ wsL_law_r3, w ∈ lw_tbl := fun w h => (goodIn_p wsL_law_r3 [134, 140] (by decide +kernel) (by decide +kernel) w h).1
set_option maxRecDepth 20000 in
theorem wq_4 : ∀ w ∈ wsL_law_r4, w ∈ lw_tbl := fun w h => (goodIn_p wsL_law_r4 [146, 616] (by decide +kernel) (by decide +kernel) w h).1
set_option maxRecDepth 20000 in
theorem wq_5 : ∀ w ∈ wsL_law_r5, w ∈ lw_tbl := fun w h => (goodIn_p wsL_law_r5 [238, 243, 248, 697, 700] (by decide +kernel) (by decide +kernel) w h).1
set_option maxRecDepth 20000 in
theorem wq_6 : ∀ w ∈ wsL_law_r6, w ∈ lw_tbl := fun w h => (goodIn_p wsL_law_r6 [252, 256, 706, 260, 264, 268] (by decide +kernel) (by decide +kernel) w h).1
set_option maxRecDepth 20000 in
theorem wq_7 : ∀ w ∈ wsL_law_r7, w ∈ lw_tbl := fun w h => (goodIn_p wsL_law_r7 [272, 276, 280, 284, 288] (by decide +kernel) (by decide +kernel) w h).1
set_option maxRecDepth 20000 in
theorem wq_8 : ∀ w ∈ wsL_law_r8, w ∈ lw_tbl := fun w h => (goodIn_p wsL_law_r8 [292, 296, 710, 714] (by decide +kernel) (by decide +kernel) w h).1
set_option maxRecDepth 20000 in
theorem wq_9 : ∀ w ∈ wsL_law_r9, w ∈ lw_tbl := fun w h => (goodIn_p wsL_law_r9 [718, 722, 300, 304, 309] (by decide +kernel) (by decide +kernel) w h).1
set_option maxRecDepth 20000 in
theorem wq_10 : ∀ w ∈ wsL_law_r10, w ∈ lw_tbl := fun w h => (goodIn_p wsL_law_r10 [313, 317, 321, 726, 325] (by decide +kernel) (by decide +kernel) w h).1
end
section
set_option maxRecDepth 20000 in
theorem wq_11 : ∀ w ∈ wsL_law_r11, w ∈ lw_tbl := fun w h => (goodIn_p wsL_law_r11 [329, 333, 337, 341, 344, 348] (by decide +kernel) (by decide +kernel) w h).1
set_option maxRecDepth 20000 in
theorem wq_12 : ∀ w ∈ wsL_law_r12, w ∈ lw_tbl := fun w h => (goodIn_p wsL_law_r12 [352, 356, 731, 735, 360, 364] (by decide +kernel) (by decide +kernel) w h).1
set_option maxRecDepth 20000 in
theorem wq_13 : ∀ w ∈ wsL_law_r13, w ∈ lw_tbl := fun w h => (goodIn_p wsL_law_r13 [740, 744, 368, 371, 374, 378] (by decide +kernel) (by decide +kernel) w h).1
set_option maxRecDepth 20000 in
theorem wq_14 : ∀ w ∈ wsL_law_r14, w ∈ lw_tbl := fun w h => (goodIn_p wsL_law_r14 [382, 385, 748, 752, 389, 756] (by decide +kernel) (by decide +kernel) w h).1
set_option maxRecDepth 20000 in
theorem wq_15 : ∀ w ∈ wsL_law_r15, w ∈ lw_tbl := fun w h => (goodIn_p wsL_law_r15 [760, 394, 765, 398, 402, 406] (by decide +kernel) (by decide +kernel) w h).1
set_option maxRecDepth 20000 in
theorem wq_16 : ∀ w ∈ wsL_law_r16, w ∈ lw_tbl := fun w h => (goodIn_p wsL_law_r16 [410, 414, 417, 769, 773, 777] (by decide +kernel) (by decide +kernel) w h).1
set_option maxRecDepth 20000 in
theorem wq_17 : ∀ w ∈ wsL_law_r17, w ∈ lw_tbl := fun w h => (goodIn_p wsL_law_r17 [781, 784, 421, 425, 429, 433] (by decide +kernel) (by decide +kernel) w h).1
set_option maxRecDepth 20000 in
theorem wq_18 : ∀ w ∈ wsL_law_r18, w ∈ lw_tbl := fun w h => (goodIn_p wsL_law_r18 [438, 442, 445, 450, 454] (by decide +kernel) (by decide +kernel) w h).1
set_option maxRecDepth 20000 in
theorem wq_19 : ∀ w ∈ wsL_law_r19, w ∈ lw_tbl := fun w h => (goodIn_p wsL_law_r19 [458, 462, 466, 470, 474, 478] (by decide +kernel) (by decide +kernel) w h).1
set_option maxRecDepth 20000 in
theorem wq_20 : ∀ w ∈ wsL_law_r20, w ∈ lw_tbl := fun w h => (goodIn_p wsL_law_r20 [482, 486, 490, 494, 497, 500, 504] (by decide +kernel) (by decide +kernel) w h).1
end
section
set_option maxRecDepth 20000 in
theorem wq_21 : ∀ w ∈ wsL_law_r21, w ∈ lw_tbl := fun w h => (goodIn_p wsL_law_r21 [508, 512, 516, 519, 522] (by decide +kernel) (by decide +kernel) w h).1
set_option maxRecDepth 20000 in
theorem wq_22 : ∀ w ∈ wsL_law_r22, w ∈ lw_tbl := fun w h => (goodIn_p wsL_law_r22 [529, 533, 788, 792] (by decide +kernel) (by decide +kernel) w h).1
set_option maxRecDepth 20000 in
theorem wq_23 : ∀ w ∈ wsL_law_r23, w ∈ lw_tbl := fun w h => (goodIn_p wsL_law_r23 [796, 800, 804, 808, 812] (by decide +kernel) (by decide +kernel) w h).1
set_option maxRecDepth 20000 in
theorem wq_24 : ∀ w ∈ wsL_law_r24, w ∈ lw_tbl := fun w h => (goodIn_p wsL_law_r24 [816, 820, 823, 826, 830, 833, 836] (by decide +kernel) (by decide +kernel) w h).1
set_option maxRecDepth 20000 in
theorem wq_25 : ∀ w ∈ wsL_law_r25, w ∈ lw_tbl := fun w h => (goodIn_p wsL_law_r25 [537, 540, 544, 550, 840] (by decide +kernel) (by decide +kernel) w h).1
set_option maxRecDepth 20000 in
theorem wq_26 : ∀ w ∈ wsL_law_r26, w ∈ lw_tbl := fun w h => (goodIn_p wsL_law_r26 [844, 554, 558, 562, 848, 852] (by decide +kernel) (by decide +kernel) w h).1
set_option maxRecDepth 20000 in
theorem wq_27 : ∀ w ∈ wsL_law_r27, w ∈ lw_tbl := fun w h => (goodIn_p wsL_law_r27 [856, 566, 570, 574, 860, 579] (by decide +kernel) (by decide +kernel) w h).1
set_option maxRecDepth 20000 in
theorem wq_28 : ∀ w ∈ wsL_law_r28, w ∈ lw_tbl := fun w h => (goodIn_p wsL_law_r28 [583, 864, 592, 868] (by decide +kernel) (by decide +kernel) w h).1
set_option maxRecDepth 20000 in
theorem wq_29 : ∀ w ∈ wsL_law_r29, w ∈ lw_tbl := fun w h => (goodIn_p wsL_law_r29 [872, 596, 601, 609, 876] (by decide +kernel) (by decide +kernel) w h).1
set_option maxRecDepth 20000 in
theorem wq_30 : ∀ w ∈ wsL_law_r30, w ∈ lw_tbl := fun w h => (goodIn_p wsL_law_r30 [881, 886] (by decide +kernel) (by decide +kernel) w h).1
set_option maxRecDepth 20000 in
theorem wq_wsX60 : ∀ w ∈ wsX60, w ∈ lw_tbl := fun w h => (goodIn_p wsX60 [] (by decide +kernel) (by decide +kernel) w h).1
set_option maxRecDepth 20000 in
theorem wq_wsX70 : ∀ w ∈ wsX70, w ∈ lw_tbl := fun w h => (goodIn_p wsX70 [] (by decide +kernel) (by decide +kernel) w h).1
set_option maxRecDepth 20000 in
theorem wq_wsX40 : ∀ w ∈ wsX40, w ∈ lw_tbl := fun w h => (goodIn_p wsX40 [] (by decide +kernel) (by decide +kernel) w h).1
set_option maxRecDepth 20000 in
theorem wq_wsX50 : ∀ w ∈ wsX50, w ∈ lw_tbl := fun w h => (goodIn_p wsX50 [] (by decide +kernel) (by decide +kernel) w h).1
set_option maxRecDepth 20000 in
theorem wq_wsX20 : ∀ w ∈ wsX20, w ∈ lw_tbl := fun w h => (goodIn_p wsX20 [] (by decide +kernel) (by decide +kernel) w h).1
set_option maxRecDepth 20000 in
theorem wq_wsX30 : ∀ w ∈ wsX30, w ∈ lw_tbl := fun w h => (goodIn_p wsX30 [] (by decide +kernel) (by decide +kernel) w h).1
set_option maxRecDepth 20000 in
theorem wq_wsX10 : ∀ w ∈ wsX10, w ∈ lw_tbl := fun w h => (goodIn_p wsX10 [] (by decide +kernel) (by decide +kernel) w h).1
set_option maxRecDepth 20000 in
theorem wq_wsX00 : ∀ w ∈ wsX00, w ∈ lw_tbl := fun w h => (goodIn_p wsX00 [] (by decide +kernel) (by decide +kernel) w h).1
theorem wsL_law_in : ∀ w ∈ wsL_law, w ∈ lw_tbl := by
  unfold wsL_law
  exact List.forall_mem_append.mpr ⟨List.forall_mem_append.mpr ⟨List.forall_mem_append.mpr ⟨List.forall_mem_append.mpr ⟨List.forall_mem_append.mpr ⟨List.forall_mem_append.mpr ⟨List.forall_mem_append.mpr ⟨List.forall_mem_append.mpr ⟨List.forall_mem_append.mpr ⟨List.forall_mem_append.mpr ⟨wq_1, List.forall_mem_append.mpr ⟨wq_2, List.forall_mem_append.mpr ⟨wq_3, List.forall_mem_append.mpr ⟨wq_4, List.forall_mem_append.mpr ⟨wq_5, List.forall_mem_append.mpr ⟨wq_6, List.forall_mem_append.mpr ⟨wq_7, List.forall_mem_append.mpr ⟨wq_8, List.forall_mem_append.mpr ⟨wq_9, List.forall_mem_append.mpr ⟨wq_10, List.forall_mem_append.mpr ⟨wq_11, List.forall_mem_append.mpr ⟨wq_12, List.forall_mem_append.mpr ⟨wq_13, List.forall_mem_append.mpr ⟨wq_14, List.forall_mem_append.mpr ⟨wq_15, List.forall_mem_append.mpr ⟨wq_16, List.forall_mem_append.mpr ⟨wq_17, List.forall_mem_append.mpr ⟨wq_18, List.forall_mem_append.mpr ⟨wq_19, List.forall_mem_append.mpr ⟨wq_20, List.forall_mem_append.mpr ⟨wq_21, List.forall_mem_append.mpr ⟨wq_22, List.forall_mem_append.mpr ⟨wq_23, List.forall_mem_append.mpr ⟨wq_24, List.forall_mem_append.mpr ⟨wq_25, List.forall_mem_append.mpr ⟨wq_26, List.forall_mem_append.mpr ⟨wq_27, List.forall_mem_append.mpr ⟨wq_28, List.forall_mem_append.mpr ⟨wq_29, wq_30⟩⟩⟩⟩⟩⟩⟩⟩⟩⟩⟩⟩⟩⟩⟩⟩⟩⟩⟩⟩⟩⟩⟩⟩⟩⟩⟩⟩⟩, wq_wsX60⟩, wq_wsX70⟩, wq_wsX40⟩, wq_wsX50⟩, wq_wsX20⟩, wq_wsX30⟩, wq_wsX10⟩, wq_wsX00⟩, fun _ h => absurd h List.not_mem_nil⟩
end
section
theorem dX0_init_0 : decode cX0_init 0 = .ok (.aload_n 0, 1) := by decide +kernel
theorem dX0_init_1 : decode cX0_init 1 = .ok (.invokespecial 3, 3) := by decide +kernel
theorem dX0_init_4 : decode cX0_init 4 = .ok (.aload_n 0, 1) := by decide +kernel
theorem dX0_init_5 : decode cX0_init 5 = .ok (.aload_n 1, 1) := by decide +kernel
theorem dX0_init_6 : decode cX0_init 6 = .ok (.putfield 9, 3) := by decide +kernel
theorem dX0_init_9 : decode cX0_init 9 = .ok (.aload_n 0, 1) := by decide +kernel
theorem dX0_init_10 : decode cX0_init 10 = .ok (.bipush 25, 2) := by decide +kernel
theorem dX0_init_12 : decode cX0_init 12 = .ok (.newarray .long, 2) := by decide +kernel
theorem dX0_init_14 : decode cX0_init 14 = .ok (.putfield 15, 3) := by decide +kernel
theorem dX0_init_17 : decode cX0_init 17 = .ok (.aload_n 0, 1) := by decide +kernel
theorem dX0_init_18 : decode cX0_init 18 = .ok (.bipush 9, 2) := by decide +kernel
theorem dX0_init_20 : decode cX0_init 20 = .ok (.newarray .long, 2) := by decide +kernel
theorem dX0_init_22 : decode cX0_init 22 = .ok (.putfield 19, 3) := by decide +kernel
theorem dX0_init_25 : decode cX0_init 25 = .ok (.aload_n 0, 1) := by decide +kernel
theorem dX0_init_26 : decode cX0_init 26 = .ok (.iconst 3, 1) := by decide +kernel
theorem dX0_init_27 : decode cX0_init 27 = .ok (.newarray .long, 2) := by decide +kernel
theorem dX0_init_29 : decode cX0_init 29 = .ok (.putfield 22, 3) := by decide +kernel
theorem dX0_init_32 : decode cX0_init 32 = .ok (.aload_n 0, 1) := by decide +kernel
theorem dX0_init_33 : decode cX0_init 33 = .ok (.iconst 4, 1) := by decide +kernel
theorem dX0_init_34 : decode cX0_init 34 = .ok (.newarray .long, 2) := by decide +kernel
theorem dX0_init_36 : decode cX0_init 36 = .ok (.putfield 25, 3) := by decide +kernel
theorem dX0_init_39 : decode cX0_init 39 = .ok (.aload_n 0, 1) := by decide +kernel
theorem dX0_init_40 : decode cX0_init 40 = .ok (.new 28, 3) := by decide +kernel
theorem dX0_init_43 : decode cX0_init 43 = .ok (.dup, 1) := by decide +kernel
theorem dX0_init_44 : decode cX0_init 44 = .ok (.invokespecial 30, 3) := by decide +kernel
theorem dX0_init_47 : decode cX0_init 47 = .ok (.putfield 31, 3) := by decide +kernel
theorem dX0_init_50 : decode cX0_init 50 = .ok (.return_, 1) := by decide +kernel
theorem dX0_weigh_0 : decode cX0_weigh 0 = .ok (.iconst 0, 1) := by decide +kernel
theorem dX0_weigh_1 : decode cX0_weigh 1 = .ok (.istore_n 2, 1) := by decide +kernel
theorem dX0_weigh_2 : decode cX0_weigh 2 = .ok (.iload_n 2, 1) := by decide +kernel
theorem dX0_weigh_3 : decode cX0_weigh 3 = .ok (.iconst 5, 1) := by decide +kernel
theorem dX0_weigh_4 : decode cX0_weigh 4 = .ok (.if_icmp .ge 42, 3) := by decide +kernel
theorem dX0_weigh_7 : decode cX0_weigh 7 = .ok (.iconst 0, 1) := by decide +kernel
theorem dX0_weigh_8 : decode cX0_weigh 8 = .ok (.istore_n 3, 1) := by decide +kernel
theorem dX0_weigh_9 : decode cX0_weigh 9 = .ok (.iload_n 3, 1) := by decide +kernel
theorem dX0_weigh_10 : decode cX0_weigh 10 = .ok (.iconst 5, 1) := by decide +kernel
theorem dX0_weigh_11 : decode cX0_weigh 11 = .ok (.if_icmp .ge 29, 3) := by decide +kernel
theorem dX0_weigh_14 : decode cX0_weigh 14 = .ok (.aload_n 0, 1) := by decide +kernel
theorem dX0_weigh_15 : decode cX0_weigh 15 = .ok (.getfield 15, 3) := by decide +kernel
theorem dX0_weigh_18 : decode cX0_weigh 18 = .ok (.iload_n 2, 1) := by decide +kernel
theorem dX0_weigh_19 : decode cX0_weigh 19 = .ok (.iconst 5, 1) := by decide +kernel
theorem dX0_weigh_20 : decode cX0_weigh 20 = .ok (.imul, 1) := by decide +kernel
theorem dX0_weigh_21 : decode cX0_weigh 21 = .ok (.iload_n 3, 1) := by decide +kernel
theorem dX0_weigh_22 : decode cX0_weigh 22 = .ok (.iadd, 1) := by decide +kernel
theorem dX0_weigh_23 : decode cX0_weigh 23 = .ok (.aload_n 0, 1) := by decide +kernel
theorem dX0_weigh_24 : decode cX0_weigh 24 = .ok (.getfield 9, 3) := by decide +kernel
theorem dX0_weigh_27 : decode cX0_weigh 27 = .ok (.iload_n 2, 1) := by decide +kernel
theorem dX0_weigh_28 : decode cX0_weigh 28 = .ok (.iload_n 3, 1) := by decide +kernel
theorem dX0_weigh_29 : decode cX0_weigh 29 = .ok (.iload_n 1, 1) := by decide +kernel
theorem dX0_weigh_30 : decode cX0_weigh 30 = .ok (.invokevirtual 35, 3) := by decide +kernel
theorem dX0_weigh_33 : decode cX0_weigh 33 = .ok (.lastore, 1) := by decide +kernel
theorem dX0_weigh_34 : decode cX0_weigh 34 = .ok (.iinc 3 1, 3) := by decide +kernel
theorem dX0_weigh_37 : decode cX0_weigh 37 = .ok (.goto (-28), 3) := by decide +kernel
theorem dX0_weigh_40 : decode cX0_weigh 40 = .ok (.iinc 2 1, 3) := by decide +kernel
theorem dX0_weigh_43 : decode cX0_weigh 43 = .ok (.goto (-41), 3) := by decide +kernel
theorem dX0_weigh_46 : decode cX0_weigh 46 = .ok (.return_, 1) := by decide +kernel
theorem dX0_solve_0 : decode cX0_solve 0 = .ok (.aload_n 0, 1) := by decide +kernel
theorem dX0_solve_1 : decode cX0_solve 1 = .ok (.iload_n 1, 1) := by decide +kernel
theorem dX0_solve_2 : decode cX0_solve 2 = .ok (.putfield 41, 3) := by decide +kernel
theorem dX0_solve_5 : decode cX0_solve 5 = .ok (.aload_n 0, 1) := by decide +kernel
theorem dX0_solve_6 : decode cX0_solve 6 = .ok (.iload_n 1, 1) := by decide +kernel
theorem dX0_solve_7 : decode cX0_solve 7 = .ok (.invokestatic 45, 3) := by decide +kernel
theorem dX0_solve_10 : decode cX0_solve 10 = .ok (.putfield 49, 3) := by decide +kernel
theorem dX0_solve_13 : decode cX0_solve 13 = .ok (.aload_n 0, 1) := by decide +kernel
theorem dX0_solve_14 : decode cX0_solve 14 = .ok (.invokevirtual 52, 3) := by decide +kernel
theorem dX0_solve_17 : decode cX0_solve 17 = .ok (.aload_n 0, 1) := by decide +kernel
theorem dX0_solve_18 : decode cX0_solve 18 = .ok (.aload_n 0, 1) := by decide +kernel
theorem dX0_solve_19 : decode cX0_solve 19 = .ok (.invokevirtual 55, 3) := by decide +kernel
theorem dX0_solve_22 : decode cX0_solve 22 = .ok (.putfield 59, 3) := by decide +kernel
theorem dX0_solve_25 : decode cX0_solve 25 = .ok (.aload_n 0, 1) := by decide +kernel
theorem dX0_solve_26 : decode cX0_solve 26 = .ok (.invokevirtual 63, 3) := by decide +kernel
theorem dX0_solve_29 : decode cX0_solve 29 = .ok (.aload_n 0, 1) := by decide +kernel
theorem dX0_solve_30 : decode cX0_solve 30 = .ok (.getfield 31, 3) := by decide +kernel
theorem dX0_solve_33 : decode cX0_solve 33 = .ok (.aload_n 0, 1) := by decide +kernel
theorem dX0_solve_34 : decode cX0_solve 34 = .ok (.invokevirtual 66, 3) := by decide +kernel
theorem dX0_solve_37 : decode cX0_solve 37 = .ok (.aload_n 0, 1) := by decide +kernel
theorem dX0_solve_38 : decode cX0_solve 38 = .ok (.getfield 59, 3) := by decide +kernel
theorem dX0_solve_41 : decode cX0_solve 41 = .ok (.invokevirtual 69, 3) := by decide +kernel
theorem dX0_solve_44 : decode cX0_solve 44 = .ok (.return_, 1) := by decide +kernel
theorem dX0_isOnly_0 : decode cX0_isOnly 0 = .ok (.aload_n 0, 1) := by decide +kernel
theorem dX0_isOnly_1 : decode cX0_isOnly 1 = .ok (.getfield 59, 3) := by decide +kernel
theorem dX0_isOnly_4 : decode cX0_isOnly 4 = .ok (.lconst 0, 1) := by decide +kernel
theorem dX0_isOnly_5 : decode cX0_isOnly 5 = .ok (.lcmp, 1) := by decide +kernel
theorem dX0_isOnly_6 : decode cX0_isOnly 6 = .ok (.ifCond .le 7, 3) := by decide +kernel
theorem dX0_isOnly_9 : decode cX0_isOnly 9 = .ok (.iconst 1, 1) := by decide +kernel
theorem dX0_isOnly_10 : decode cX0_isOnly 10 = .ok (.goto 4, 3) := by decide +kernel
theorem dX0_isOnly_13 : decode cX0_isOnly 13 = .ok (.iconst 0, 1) := by decide +kernel
theorem dX0_isOnly_14 : decode cX0_isOnly 14 = .ok (.ireturn, 1) := by decide +kernel
theorem dX0_isGood_0 : decode cX0_isGood 0 = .ok (.iconst 0, 1) := by decide +kernel
theorem dX0_isGood_1 : decode cX0_isGood 1 = .ok (.istore_n 1, 1) := by decide +kernel
theorem dX0_isGood_2 : decode cX0_isGood 2 = .ok (.iload_n 1, 1) := by decide +kernel
theorem dX0_isGood_3 : decode cX0_isGood 3 = .ok (.iconst 4, 1) := by decide +kernel
theorem dX0_isGood_4 : decode cX0_isGood 4 = .ok (.if_icmp .ge 33, 3) := by decide +kernel
theorem dX0_isGood_7 : decode cX0_isGood 7 = .ok (.aload_n 0, 1) := by decide +kernel
theorem dX0_isGood_8 : decode cX0_isGood 8 = .ok (.getfield 41, 3) := by decide +kernel
theorem dX0_isGood_11 : decode cX0_isGood 11 = .ok (.iload_n 1, 1) := by decide +kernel
theorem dX0_isGood_12 : decode cX0_isGood 12 = .ok (.invokestatic 73, 3) := by decide +kernel
theorem dX0_isGood_15 : decode cX0_isGood 15 = .ok (.ifCond .eq 16, 3) := by decide +kernel
theorem dX0_isGood_18 : decode cX0_isGood 18 = .ok (.aload_n 0, 1) := by decide +kernel
theorem dX0_isGood_19 : decode cX0_isGood 19 = .ok (.getfield 25, 3) := by decide +kernel
theorem dX0_isGood_22 : decode cX0_isGood 22 = .ok (.iload_n 1, 1) := by decide +kernel
theorem dX0_isGood_23 : decode cX0_isGood 23 = .ok (.laload, 1) := by decide +kernel
theorem dX0_isGood_24 : decode cX0_isGood 24 = .ok (.lconst 0, 1) := by decide +kernel
theorem dX0_isGood_25 : decode cX0_isGood 25 = .ok (.lcmp, 1) := by decide +kernel
theorem dX0_isGood_26 : decode cX0_isGood 26 = .ok (.ifCond .gt 5, 3) := by decide +kernel
theorem dX0_isGood_29 : decode cX0_isGood 29 = .ok (.iconst 0, 1) := by decide +kernel
theorem dX0_isGood_30 : decode cX0_isGood 30 = .ok (.ireturn, 1) := by decide +kernel
theorem dX0_isGood_31 : decode cX0_isGood 31 = .ok (.iinc 1 1, 3) := by decide +kernel
theorem dX0_isGood_34 : decode cX0_isGood 34 = .ok (.goto (-32), 3) := by decide +kernel
theorem dX0_isGood_37 : decode cX0_isGood 37 = .ok (.aload_n 0, 1) := by decide +kernel
theorem dX0_isGood_38 : decode cX0_isGood 38 = .ok (.invokevirtual 77, 3) := by decide +kernel
theorem dX0_isGood_41 : decode cX0_isGood 41 = .ok (.ireturn, 1) := by decide +kernel
theorem dX0_partOf_0 : decode cX0_partOf 0 = .ok (.iload_n 1, 1) := by decide +kernel
theorem dX0_partOf_1 : decode cX0_partOf 1 = .ok (.ifCond .lt 17, 3) := by decide +kernel
theorem dX0_partOf_4 : decode cX0_partOf 4 = .ok (.iload_n 1, 1) := by decide +kernel
theorem dX0_partOf_5 : decode cX0_partOf 5 = .ok (.iconst 4, 1) := by decide +kernel
theorem dX0_partOf_6 : decode cX0_partOf 6 = .ok (.if_icmp .ge 12, 3) := by decide +kernel
theorem dX0_partOf_9 : decode cX0_partOf 9 = .ok (.aload_n 0, 1) := by decide +kernel
theorem dX0_partOf_10 : decode cX0_partOf 10 = .ok (.getfield 25, 3) := by decide +kernel
theorem dX0_partOf_13 : decode cX0_partOf 13 = .ok (.iload_n 1, 1) := by decide +kernel
theorem dX0_partOf_14 : decode cX0_partOf 14 = .ok (.laload, 1) := by decide +kernel
theorem dX0_partOf_15 : decode cX0_partOf 15 = .ok (.goto 4, 3) := by decide +kernel
theorem dX0_partOf_18 : decode cX0_partOf 18 = .ok (.lconst 0, 1) := by decide +kernel
theorem dX0_partOf_19 : decode cX0_partOf 19 = .ok (.lreturn, 1) := by decide +kernel
theorem dX0_pressAbove_0 : decode cX0_pressAbove 0 = .ok (.aload_n 0, 1) := by decide +kernel
theorem dX0_pressAbove_1 : decode cX0_pressAbove 1 = .ok (.getfield 59, 3) := by decide +kernel
theorem dX0_pressAbove_4 : decode cX0_pressAbove 4 = .ok (.lneg, 1) := by decide +kernel
theorem dX0_pressAbove_5 : decode cX0_pressAbove 5 = .ok (.aload_n 0, 1) := by decide +kernel
theorem dX0_pressAbove_6 : decode cX0_pressAbove 6 = .ok (.iload_n 1, 1) := by decide +kernel
theorem dX0_pressAbove_7 : decode cX0_pressAbove 7 = .ok (.iconst 4, 1) := by decide +kernel
theorem dX0_pressAbove_8 : decode cX0_pressAbove 8 = .ok (.invokevirtual 81, 3) := by decide +kernel
theorem dX0_pressAbove_11 : decode cX0_pressAbove 11 = .ok (.lmul, 1) := by decide +kernel
theorem dX0_pressAbove_12 : decode cX0_pressAbove 12 = .ok (.lstore_n 2, 1) := by decide +kernel
theorem dX0_pressAbove_13 : decode cX0_pressAbove 13 = .ok (.iconst 0, 1) := by decide +kernel
theorem dX0_pressAbove_14 : decode cX0_pressAbove 14 = .ok (.istore 4, 2) := by decide +kernel
theorem dX0_pressAbove_16 : decode cX0_pressAbove 16 = .ok (.iload 4, 2) := by decide +kernel
theorem dX0_pressAbove_18 : decode cX0_pressAbove 18 = .ok (.iconst 4, 1) := by decide +kernel
theorem dX0_pressAbove_19 : decode cX0_pressAbove 19 = .ok (.if_icmp .ge 27, 3) := by decide +kernel
theorem dX0_pressAbove_22 : decode cX0_pressAbove 22 = .ok (.lload_n 2, 1) := by decide +kernel
theorem dX0_pressAbove_23 : decode cX0_pressAbove 23 = .ok (.aload_n 0, 1) := by decide +kernel
theorem dX0_pressAbove_24 : decode cX0_pressAbove 24 = .ok (.getfield 25, 3) := by decide +kernel
theorem dX0_pressAbove_27 : decode cX0_pressAbove 27 = .ok (.iload 4, 2) := by decide +kernel
theorem dX0_pressAbove_29 : decode cX0_pressAbove 29 = .ok (.laload, 1) := by decide +kernel
theorem dX0_pressAbove_30 : decode cX0_pressAbove 30 = .ok (.aload_n 0, 1) := by decide +kernel
theorem dX0_pressAbove_31 : decode cX0_pressAbove 31 = .ok (.iload_n 1, 1) := by decide +kernel
theorem dX0_pressAbove_32 : decode cX0_pressAbove 32 = .ok (.iload 4, 2) := by decide +kernel
theorem dX0_pressAbove_34 : decode cX0_pressAbove 34 = .ok (.invokevirtual 81, 3) := by decide +kernel
theorem dX0_pressAbove_37 : decode cX0_pressAbove 37 = .ok (.lmul, 1) := by decide +kernel
theorem dX0_pressAbove_38 : decode cX0_pressAbove 38 = .ok (.ladd, 1) := by decide +kernel
theorem dX0_pressAbove_39 : decode cX0_pressAbove 39 = .ok (.lstore_n 2, 1) := by decide +kernel
theorem dX0_pressAbove_40 : decode cX0_pressAbove 40 = .ok (.iinc 4 1, 3) := by decide +kernel
theorem dX0_pressAbove_43 : decode cX0_pressAbove 43 = .ok (.goto (-27), 3) := by decide +kernel
theorem dX0_pressAbove_46 : decode cX0_pressAbove 46 = .ok (.lload_n 2, 1) := by decide +kernel
theorem dX0_pressAbove_47 : decode cX0_pressAbove 47 = .ok (.lreturn, 1) := by decide +kernel
theorem dX0_mixedAbove_0 : decode cX0_mixedAbove 0 = .ok (.lconst 0, 1) := by decide +kernel
theorem dX0_mixedAbove_1 : decode cX0_mixedAbove 1 = .ok (.lstore_n 2, 1) := by decide +kernel
theorem dX0_mixedAbove_2 : decode cX0_mixedAbove 2 = .ok (.iconst 0, 1) := by decide +kernel
theorem dX0_mixedAbove_3 : decode cX0_mixedAbove 3 = .ok (.istore 4, 2) := by decide +kernel
theorem dX0_mixedAbove_5 : decode cX0_mixedAbove 5 = .ok (.iload 4, 2) := by decide +kernel
theorem dX0_mixedAbove_7 : decode cX0_mixedAbove 7 = .ok (.iconst 4, 1) := by decide +kernel
theorem dX0_mixedAbove_8 : decode cX0_mixedAbove 8 = .ok (.if_icmp .ge 31, 3) := by decide +kernel
theorem dX0_mixedAbove_11 : decode cX0_mixedAbove 11 = .ok (.lload_n 2, 1) := by decide +kernel
theorem dX0_mixedAbove_12 : decode cX0_mixedAbove 12 = .ok (.aload_n 0, 1) := by decide +kernel
theorem dX0_mixedAbove_13 : decode cX0_mixedAbove 13 = .ok (.getfield 25, 3) := by decide +kernel
theorem dX0_mixedAbove_16 : decode cX0_mixedAbove 16 = .ok (.iload 4, 2) := by decide +kernel
theorem dX0_mixedAbove_18 : decode cX0_mixedAbove 18 = .ok (.laload, 1) := by decide +kernel
theorem dX0_mixedAbove_19 : decode cX0_mixedAbove 19 = .ok (.aload_n 0, 1) := by decide +kernel
theorem dX0_mixedAbove_20 : decode cX0_mixedAbove 20 = .ok (.getfield 9, 3) := by decide +kernel
theorem dX0_mixedAbove_23 : decode cX0_mixedAbove 23 = .ok (.iload 4, 2) := by decide +kernel
theorem dX0_mixedAbove_25 : decode cX0_mixedAbove 25 = .ok (.iload_n 1, 1) := by decide +kernel
theorem dX0_mixedAbove_26 : decode cX0_mixedAbove 26 = .ok (.invokevirtual 85, 3) := by decide +kernel
theorem dX0_mixedAbove_29 : decode cX0_mixedAbove 29 = .ok (.i2l, 1) := by decide +kernel
theorem dX0_mixedAbove_30 : decode cX0_mixedAbove 30 = .ok (.lmul, 1) := by decide +kernel
theorem dX0_mixedAbove_31 : decode cX0_mixedAbove 31 = .ok (.ladd, 1) := by decide +kernel
theorem dX0_mixedAbove_32 : decode cX0_mixedAbove 32 = .ok (.lstore_n 2, 1) := by decide +kernel
theorem dX0_mixedAbove_33 : decode cX0_mixedAbove 33 = .ok (.iinc 4 1, 3) := by decide +kernel
theorem dX0_mixedAbove_36 : decode cX0_mixedAbove 36 = .ok (.goto (-31), 3) := by decide +kernel
theorem dX0_mixedAbove_39 : decode cX0_mixedAbove 39 = .ok (.lload_n 2, 1) := by decide +kernel
theorem dX0_mixedAbove_40 : decode cX0_mixedAbove 40 = .ok (.lreturn, 1) := by decide +kernel
theorem dX0_writeEquations_0 : decode cX0_writeEquations 0 = .ok (.iconst 0, 1) := by decide +kernel
theorem dX0_writeEquations_1 : decode cX0_writeEquations 1 = .ok (.istore_n 1, 1) := by decide +kernel
theorem dX0_writeEquations_2 : decode cX0_writeEquations 2 = .ok (.iload_n 1, 1) := by decide +kernel
theorem dX0_writeEquations_3 : decode cX0_writeEquations 3 = .ok (.iconst 3, 1) := by decide +kernel
theorem dX0_writeEquations_4 : decode cX0_writeEquations 4 = .ok (.if_icmp .ge 131, 3) := by decide +kernel
theorem dX0_writeEquations_7 : decode cX0_writeEquations 7 = .ok (.aload_n 0, 1) := by decide +kernel
theorem dX0_writeEquations_8 : decode cX0_writeEquations 8 = .ok (.getfield 41, 3) := by decide +kernel
theorem dX0_writeEquations_11 : decode cX0_writeEquations 11 = .ok (.aload_n 0, 1) := by decide +kernel
theorem dX0_writeEquations_12 : decode cX0_writeEquations 12 = .ok (.iload_n 1, 1) := by decide +kernel
theorem dX0_writeEquations_13 : decode cX0_writeEquations 13 = .ok (.invokevirtual 89, 3) := by decide +kernel
theorem dX0_writeEquations_16 : decode cX0_writeEquations 16 = .ok (.invokestatic 73, 3) := by decide +kernel
theorem dX0_writeEquations_19 : decode cX0_writeEquations 19 = .ok (.istore_n 2, 1) := by decide +kernel
theorem dX0_writeEquations_20 : decode cX0_writeEquations 20 = .ok (.iconst 0, 1) := by decide +kernel
theorem dX0_writeEquations_21 : decode cX0_writeEquations 21 = .ok (.istore_n 3, 1) := by decide +kernel
theorem dX0_writeEquations_22 : decode cX0_writeEquations 22 = .ok (.iload_n 3, 1) := by decide +kernel
theorem dX0_writeEquations_23 : decode cX0_writeEquations 23 = .ok (.iconst 3, 1) := by decide +kernel
theorem dX0_writeEquations_24 : decode cX0_writeEquations 24 = .ok (.if_icmp .ge 81, 3) := by decide +kernel
theorem dX0_writeEquations_27 : decode cX0_writeEquations 27 = .ok (.iload_n 1, 1) := by decide +kernel
theorem dX0_writeEquations_28 : decode cX0_writeEquations 28 = .ok (.iload_n 3, 1) := by decide +kernel
theorem dX0_writeEquations_29 : decode cX0_writeEquations 29 = .ok (.if_icmp .ne 7, 3) := by decide +kernel
theorem dX0_writeEquations_32 : decode cX0_writeEquations 32 = .ok (.lconst 1, 1) := by decide +kernel
theorem dX0_writeEquations_33 : decode cX0_writeEquations 33 = .ok (.goto 4, 3) := by decide +kernel
theorem dX0_writeEquations_36 : decode cX0_writeEquations 36 = .ok (.lconst 0, 1) := by decide +kernel
theorem dX0_writeEquations_37 : decode cX0_writeEquations 37 = .ok (.lstore 4, 2) := by decide +kernel
theorem dX0_writeEquations_39 : decode cX0_writeEquations 39 = .ok (.iload_n 2, 1) := by decide +kernel
theorem dX0_writeEquations_40 : decode cX0_writeEquations 40 = .ok (.ifCond .eq 22, 3) := by decide +kernel
theorem dX0_writeEquations_43 : decode cX0_writeEquations 43 = .ok (.aload_n 0, 1) := by decide +kernel
theorem dX0_writeEquations_44 : decode cX0_writeEquations 44 = .ok (.getfield 41, 3) := by decide +kernel
theorem dX0_writeEquations_47 : decode cX0_writeEquations 47 = .ok (.aload_n 0, 1) := by decide +kernel
theorem dX0_writeEquations_48 : decode cX0_writeEquations 48 = .ok (.iload_n 3, 1) := by decide +kernel
theorem dX0_writeEquations_49 : decode cX0_writeEquations 49 = .ok (.invokevirtual 89, 3) := by decide +kernel
theorem dX0_writeEquations_52 : decode cX0_writeEquations 52 = .ok (.invokestatic 73, 3) := by decide +kernel
theorem dX0_writeEquations_55 : decode cX0_writeEquations 55 = .ok (.ifCond .eq 7, 3) := by decide +kernel
theorem dX0_writeEquations_58 : decode cX0_writeEquations 58 = .ok (.iconst 1, 1) := by decide +kernel
theorem dX0_writeEquations_59 : decode cX0_writeEquations 59 = .ok (.goto 4, 3) := by decide +kernel
theorem dX0_writeEquations_62 : decode cX0_writeEquations 62 = .ok (.iconst 0, 1) := by decide +kernel
theorem dX0_writeEquations_63 : decode cX0_writeEquations 63 = .ok (.istore 6, 2) := by decide +kernel
theorem dX0_writeEquations_65 : decode cX0_writeEquations 65 = .ok (.aload_n 0, 1) := by decide +kernel
theorem dX0_writeEquations_66 : decode cX0_writeEquations 66 = .ok (.getfield 19, 3) := by decide +kernel
theorem dX0_writeEquations_69 : decode cX0_writeEquations 69 = .ok (.iload_n 1, 1) := by decide +kernel
theorem dX0_writeEquations_70 : decode cX0_writeEquations 70 = .ok (.iconst 3, 1) := by decide +kernel
theorem dX0_writeEquations_71 : decode cX0_writeEquations 71 = .ok (.imul, 1) := by decide +kernel
theorem dX0_writeEquations_72 : decode cX0_writeEquations 72 = .ok (.iload_n 3, 1) := by decide +kernel
theorem dX0_writeEquations_73 : decode cX0_writeEquations 73 = .ok (.iadd, 1) := by decide +kernel
theorem dX0_writeEquations_74 : decode cX0_writeEquations 74 = .ok (.iload 6, 2) := by decide +kernel
theorem dX0_writeEquations_76 : decode cX0_writeEquations 76 = .ok (.ifCond .eq 20, 3) := by decide +kernel
theorem dX0_writeEquations_79 : decode cX0_writeEquations 79 = .ok (.aload_n 0, 1) := by decide +kernel
theorem dX0_writeEquations_80 : decode cX0_writeEquations 80 = .ok (.aload_n 0, 1) := by decide +kernel
theorem dX0_writeEquations_81 : decode cX0_writeEquations 81 = .ok (.iload_n 1, 1) := by decide +kernel
theorem dX0_writeEquations_82 : decode cX0_writeEquations 82 = .ok (.invokevirtual 89, 3) := by decide +kernel
theorem dX0_writeEquations_85 : decode cX0_writeEquations 85 = .ok (.aload_n 0, 1) := by decide +kernel
theorem dX0_writeEquations_86 : decode cX0_writeEquations 86 = .ok (.iload_n 3, 1) := by decide +kernel
theorem dX0_writeEquations_87 : decode cX0_writeEquations 87 = .ok (.invokevirtual 89, 3) := by decide +kernel
theorem dX0_writeEquations_90 : decode cX0_writeEquations 90 = .ok (.invokevirtual 81, 3) := by decide +kernel
theorem dX0_writeEquations_93 : decode cX0_writeEquations 93 = .ok (.goto 5, 3) := by decide +kernel
theorem dX0_writeEquations_96 : decode cX0_writeEquations 96 = .ok (.lload 4, 2) := by decide +kernel
theorem dX0_writeEquations_98 : decode cX0_writeEquations 98 = .ok (.lastore, 1) := by decide +kernel
theorem dX0_writeEquations_99 : decode cX0_writeEquations 99 = .ok (.iinc 3 1, 3) := by decide +kernel
theorem dX0_writeEquations_102 : decode cX0_writeEquations 102 = .ok (.goto (-80), 3) := by decide +kernel
theorem dX0_writeEquations_105 : decode cX0_writeEquations 105 = .ok (.aload_n 0, 1) := by decide +kernel
theorem dX0_writeEquations_106 : decode cX0_writeEquations 106 = .ok (.getfield 22, 3) := by decide +kernel
theorem dX0_writeEquations_109 : decode cX0_writeEquations 109 = .ok (.iload_n 1, 1) := by decide +kernel
theorem dX0_writeEquations_110 : decode cX0_writeEquations 110 = .ok (.iload_n 2, 1) := by decide +kernel
theorem dX0_writeEquations_111 : decode cX0_writeEquations 111 = .ok (.ifCond .eq 16, 3) := by decide +kernel
theorem dX0_writeEquations_114 : decode cX0_writeEquations 114 = .ok (.aload_n 0, 1) := by decide +kernel
theorem dX0_writeEquations_115 : decode cX0_writeEquations 115 = .ok (.aload_n 0, 1) := by decide +kernel
theorem dX0_writeEquations_116 : decode cX0_writeEquations 116 = .ok (.iload_n 1, 1) := by decide +kernel
theorem dX0_writeEquations_117 : decode cX0_writeEquations 117 = .ok (.invokevirtual 89, 3) := by decide +kernel
theorem dX0_writeEquations_120 : decode cX0_writeEquations 120 = .ok (.iconst 4, 1) := by decide +kernel
theorem dX0_writeEquations_121 : decode cX0_writeEquations 121 = .ok (.invokevirtual 81, 3) := by decide +kernel
theorem dX0_writeEquations_124 : decode cX0_writeEquations 124 = .ok (.goto 4, 3) := by decide +kernel
theorem dX0_writeEquations_127 : decode cX0_writeEquations 127 = .ok (.lconst 0, 1) := by decide +kernel
theorem dX0_writeEquations_128 : decode cX0_writeEquations 128 = .ok (.lastore, 1) := by decide +kernel
theorem dX0_writeEquations_129 : decode cX0_writeEquations 129 = .ok (.iinc 1 1, 3) := by decide +kernel
theorem dX0_writeEquations_132 : decode cX0_writeEquations 132 = .ok (.goto (-130), 3) := by decide +kernel
theorem dX0_writeEquations_135 : decode cX0_writeEquations 135 = .ok (.return_, 1) := by decide +kernel
theorem dX0_solveParts_0 : decode cX0_solveParts 0 = .ok (.aload_n 0, 1) := by decide +kernel
theorem dX0_solveParts_1 : decode cX0_solveParts 1 = .ok (.getfield 59, 3) := by decide +kernel
theorem dX0_solveParts_4 : decode cX0_solveParts 4 = .ok (.lstore_n 1, 1) := by decide +kernel
theorem dX0_solveParts_5 : decode cX0_solveParts 5 = .ok (.iconst 0, 1) := by decide +kernel
theorem dX0_solveParts_6 : decode cX0_solveParts 6 = .ok (.istore_n 3, 1) := by decide +kernel
theorem dX0_solveParts_7 : decode cX0_solveParts 7 = .ok (.iload_n 3, 1) := by decide +kernel
theorem dX0_solveParts_8 : decode cX0_solveParts 8 = .ok (.iconst 3, 1) := by decide +kernel
theorem dX0_solveParts_9 : decode cX0_solveParts 9 = .ok (.if_icmp .ge 63, 3) := by decide +kernel
theorem dX0_solveParts_12 : decode cX0_solveParts 12 = .ok (.lconst 0, 1) := by decide +kernel
theorem dX0_solveParts_13 : decode cX0_solveParts 13 = .ok (.lstore 4, 2) := by decide +kernel
theorem dX0_solveParts_15 : decode cX0_solveParts 15 = .ok (.iconst 0, 1) := by decide +kernel
theorem dX0_solveParts_16 : decode cX0_solveParts 16 = .ok (.istore 6, 2) := by decide +kernel
theorem dX0_solveParts_18 : decode cX0_solveParts 18 = .ok (.iload 6, 2) := by decide +kernel
theorem dX0_solveParts_20 : decode cX0_solveParts 20 = .ok (.iconst 3, 1) := by decide +kernel
theorem dX0_solveParts_21 : decode cX0_solveParts 21 = .ok (.if_icmp .ge 29, 3) := by decide +kernel
theorem dX0_solveParts_24 : decode cX0_solveParts 24 = .ok (.lload 4, 2) := by decide +kernel
theorem dX0_solveParts_26 : decode cX0_solveParts 26 = .ok (.aload_n 0, 1) := by decide +kernel
theorem dX0_solveParts_27 : decode cX0_solveParts 27 = .ok (.iload_n 3, 1) := by decide +kernel
theorem dX0_solveParts_28 : decode cX0_solveParts 28 = .ok (.iload 6, 2) := by decide +kernel
theorem dX0_solveParts_30 : decode cX0_solveParts 30 = .ok (.invokevirtual 92, 3) := by decide +kernel
theorem dX0_solveParts_33 : decode cX0_solveParts 33 = .ok (.aload_n 0, 1) := by decide +kernel
theorem dX0_solveParts_34 : decode cX0_solveParts 34 = .ok (.getfield 22, 3) := by decide +kernel
theorem dX0_solveParts_37 : decode cX0_solveParts 37 = .ok (.iload 6, 2) := by decide +kernel
theorem dX0_solveParts_39 : decode cX0_solveParts 39 = .ok (.laload, 1) := by decide +kernel
theorem dX0_solveParts_40 : decode cX0_solveParts 40 = .ok (.lmul, 1) := by decide +kernel
theorem dX0_solveParts_41 : decode cX0_solveParts 41 = .ok (.ladd, 1) := by decide +kernel
theorem dX0_solveParts_42 : decode cX0_solveParts 42 = .ok (.lstore 4, 2) := by decide +kernel
theorem dX0_solveParts_44 : decode cX0_solveParts 44 = .ok (.iinc 6 1, 3) := by decide +kernel
theorem dX0_solveParts_47 : decode cX0_solveParts 47 = .ok (.goto (-29), 3) := by decide +kernel
theorem dX0_solveParts_50 : decode cX0_solveParts 50 = .ok (.aload_n 0, 1) := by decide +kernel
theorem dX0_solveParts_51 : decode cX0_solveParts 51 = .ok (.aload_n 0, 1) := by decide +kernel
theorem dX0_solveParts_52 : decode cX0_solveParts 52 = .ok (.iload_n 3, 1) := by decide +kernel
theorem dX0_solveParts_53 : decode cX0_solveParts 53 = .ok (.invokevirtual 89, 3) := by decide +kernel
theorem dX0_solveParts_56 : decode cX0_solveParts 56 = .ok (.lload 4, 2) := by decide +kernel
theorem dX0_solveParts_58 : decode cX0_solveParts 58 = .ok (.invokevirtual 95, 3) := by decide +kernel
theorem dX0_solveParts_61 : decode cX0_solveParts 61 = .ok (.lload_n 1, 1) := by decide +kernel
theorem dX0_solveParts_62 : decode cX0_solveParts 62 = .ok (.lload 4, 2) := by decide +kernel
theorem dX0_solveParts_64 : decode cX0_solveParts 64 = .ok (.lsub, 1) := by decide +kernel
theorem dX0_solveParts_65 : decode cX0_solveParts 65 = .ok (.lstore_n 1, 1) := by decide +kernel
theorem dX0_solveParts_66 : decode cX0_solveParts 66 = .ok (.iinc 3 1, 3) := by decide +kernel
theorem dX0_solveParts_69 : decode cX0_solveParts 69 = .ok (.goto (-62), 3) := by decide +kernel
theorem dX0_solveParts_72 : decode cX0_solveParts 72 = .ok (.aload_n 0, 1) := by decide +kernel
theorem dX0_solveParts_73 : decode cX0_solveParts 73 = .ok (.aload_n 0, 1) := by decide +kernel
theorem dX0_solveParts_74 : decode cX0_solveParts 74 = .ok (.getfield 49, 3) := by decide +kernel
theorem dX0_solveParts_77 : decode cX0_solveParts 77 = .ok (.lload_n 1, 1) := by decide +kernel
theorem dX0_solveParts_78 : decode cX0_solveParts 78 = .ok (.invokevirtual 95, 3) := by decide +kernel
theorem dX0_solveParts_81 : decode cX0_solveParts 81 = .ok (.return_, 1) := by decide +kernel
theorem dX0_misfitAbove_0 : decode cX0_misfitAbove 0 = .ok (.aload_n 0, 1) := by decide +kernel
theorem dX0_misfitAbove_1 : decode cX0_misfitAbove 1 = .ok (.getfield 59, 3) := by decide +kernel
theorem dX0_misfitAbove_4 : decode cX0_misfitAbove 4 = .ok (.aload_n 0, 1) := by decide +kernel
theorem dX0_misfitAbove_5 : decode cX0_misfitAbove 5 = .ok (.iconst 4, 1) := by decide +kernel
theorem dX0_misfitAbove_6 : decode cX0_misfitAbove 6 = .ok (.iconst 4, 1) := by decide +kernel
theorem dX0_misfitAbove_7 : decode cX0_misfitAbove 7 = .ok (.invokevirtual 81, 3) := by decide +kernel
theorem dX0_misfitAbove_10 : decode cX0_misfitAbove 10 = .ok (.lmul, 1) := by decide +kernel
theorem dX0_misfitAbove_11 : decode cX0_misfitAbove 11 = .ok (.lstore_n 1, 1) := by decide +kernel
theorem dX0_misfitAbove_12 : decode cX0_misfitAbove 12 = .ok (.iconst 0, 1) := by decide +kernel
theorem dX0_misfitAbove_13 : decode cX0_misfitAbove 13 = .ok (.istore_n 3, 1) := by decide +kernel
theorem dX0_misfitAbove_14 : decode cX0_misfitAbove 14 = .ok (.iload_n 3, 1) := by decide +kernel
theorem dX0_misfitAbove_15 : decode cX0_misfitAbove 15 = .ok (.iconst 3, 1) := by decide +kernel
theorem dX0_misfitAbove_16 : decode cX0_misfitAbove 16 = .ok (.if_icmp .ge 28, 3) := by decide +kernel
theorem dX0_misfitAbove_19 : decode cX0_misfitAbove 19 = .ok (.lload_n 1, 1) := by decide +kernel
theorem dX0_misfitAbove_20 : decode cX0_misfitAbove 20 = .ok (.aload_n 0, 1) := by decide +kernel
theorem dX0_misfitAbove_21 : decode cX0_misfitAbove 21 = .ok (.getfield 22, 3) := by decide +kernel
theorem dX0_misfitAbove_24 : decode cX0_misfitAbove 24 = .ok (.iload_n 3, 1) := by decide +kernel
theorem dX0_misfitAbove_25 : decode cX0_misfitAbove 25 = .ok (.laload, 1) := by decide +kernel
theorem dX0_misfitAbove_26 : decode cX0_misfitAbove 26 = .ok (.aload_n 0, 1) := by decide +kernel
theorem dX0_misfitAbove_27 : decode cX0_misfitAbove 27 = .ok (.aload_n 0, 1) := by decide +kernel
theorem dX0_misfitAbove_28 : decode cX0_misfitAbove 28 = .ok (.iload_n 3, 1) := by decide +kernel
theorem dX0_misfitAbove_29 : decode cX0_misfitAbove 29 = .ok (.invokevirtual 89, 3) := by decide +kernel
theorem dX0_misfitAbove_32 : decode cX0_misfitAbove 32 = .ok (.invokevirtual 99, 3) := by decide +kernel
theorem dX0_misfitAbove_35 : decode cX0_misfitAbove 35 = .ok (.lmul, 1) := by decide +kernel
theorem dX0_misfitAbove_36 : decode cX0_misfitAbove 36 = .ok (.lsub, 1) := by decide +kernel
theorem dX0_misfitAbove_37 : decode cX0_misfitAbove 37 = .ok (.lstore_n 1, 1) := by decide +kernel
theorem dX0_misfitAbove_38 : decode cX0_misfitAbove 38 = .ok (.iinc 3 1, 3) := by decide +kernel
theorem dX0_misfitAbove_41 : decode cX0_misfitAbove 41 = .ok (.goto (-27), 3) := by decide +kernel
theorem dX0_misfitAbove_44 : decode cX0_misfitAbove 44 = .ok (.lload_n 1, 1) := by decide +kernel
theorem dX0_misfitAbove_45 : decode cX0_misfitAbove 45 = .ok (.lreturn, 1) := by decide +kernel
theorem dX0_determinant_0 : decode cX0_determinant 0 = .ok (.lconst 0, 1) := by decide +kernel
theorem dX0_determinant_1 : decode cX0_determinant 1 = .ok (.lstore_n 1, 1) := by decide +kernel
theorem dX0_determinant_2 : decode cX0_determinant 2 = .ok (.iconst 0, 1) := by decide +kernel
theorem dX0_determinant_3 : decode cX0_determinant 3 = .ok (.istore_n 3, 1) := by decide +kernel
theorem dX0_determinant_4 : decode cX0_determinant 4 = .ok (.iload_n 3, 1) := by decide +kernel
theorem dX0_determinant_5 : decode cX0_determinant 5 = .ok (.iconst 3, 1) := by decide +kernel
theorem dX0_determinant_6 : decode cX0_determinant 6 = .ok (.if_icmp .ge 25, 3) := by decide +kernel
theorem dX0_determinant_9 : decode cX0_determinant 9 = .ok (.lload_n 1, 1) := by decide +kernel
theorem dX0_determinant_10 : decode cX0_determinant 10 = .ok (.aload_n 0, 1) := by decide +kernel
theorem dX0_determinant_11 : decode cX0_determinant 11 = .ok (.getfield 19, 3) := by decide +kernel
theorem dX0_determinant_14 : decode cX0_determinant 14 = .ok (.iload_n 3, 1) := by decide +kernel
theorem dX0_determinant_15 : decode cX0_determinant 15 = .ok (.laload, 1) := by decide +kernel
theorem dX0_determinant_16 : decode cX0_determinant 16 = .ok (.aload_n 0, 1) := by decide +kernel
theorem dX0_determinant_17 : decode cX0_determinant 17 = .ok (.iconst 0, 1) := by decide +kernel
theorem dX0_determinant_18 : decode cX0_determinant 18 = .ok (.iload_n 3, 1) := by decide +kernel
theorem dX0_determinant_19 : decode cX0_determinant 19 = .ok (.invokevirtual 92, 3) := by decide +kernel
theorem dX0_determinant_22 : decode cX0_determinant 22 = .ok (.lmul, 1) := by decide +kernel
theorem dX0_determinant_23 : decode cX0_determinant 23 = .ok (.ladd, 1) := by decide +kernel
theorem dX0_determinant_24 : decode cX0_determinant 24 = .ok (.lstore_n 1, 1) := by decide +kernel
theorem dX0_determinant_25 : decode cX0_determinant 25 = .ok (.iinc 3 1, 3) := by decide +kernel
theorem dX0_determinant_28 : decode cX0_determinant 28 = .ok (.goto (-24), 3) := by decide +kernel
theorem dX0_determinant_31 : decode cX0_determinant 31 = .ok (.lload_n 1, 1) := by decide +kernel
theorem dX0_determinant_32 : decode cX0_determinant 32 = .ok (.lreturn, 1) := by decide +kernel
theorem dX0_cofactor_0 : decode cX0_cofactor 0 = .ok (.aload_n 0, 1) := by decide +kernel
theorem dX0_cofactor_1 : decode cX0_cofactor 1 = .ok (.iload_n 1, 1) := by decide +kernel
theorem dX0_cofactor_2 : decode cX0_cofactor 2 = .ok (.iconst 1, 1) := by decide +kernel
theorem dX0_cofactor_3 : decode cX0_cofactor 3 = .ok (.iadd, 1) := by decide +kernel
theorem dX0_cofactor_4 : decode cX0_cofactor 4 = .ok (.iload_n 2, 1) := by decide +kernel
theorem dX0_cofactor_5 : decode cX0_cofactor 5 = .ok (.iconst 1, 1) := by decide +kernel
theorem dX0_cofactor_6 : decode cX0_cofactor 6 = .ok (.iadd, 1) := by decide +kernel
theorem dX0_cofactor_7 : decode cX0_cofactor 7 = .ok (.invokevirtual 103, 3) := by decide +kernel
theorem dX0_cofactor_10 : decode cX0_cofactor 10 = .ok (.aload_n 0, 1) := by decide +kernel
theorem dX0_cofactor_11 : decode cX0_cofactor 11 = .ok (.iload_n 1, 1) := by decide +kernel
theorem dX0_cofactor_12 : decode cX0_cofactor 12 = .ok (.iconst 2, 1) := by decide +kernel
theorem dX0_cofactor_13 : decode cX0_cofactor 13 = .ok (.iadd, 1) := by decide +kernel
theorem dX0_cofactor_14 : decode cX0_cofactor 14 = .ok (.iload_n 2, 1) := by decide +kernel
theorem dX0_cofactor_15 : decode cX0_cofactor 15 = .ok (.iconst 2, 1) := by decide +kernel
theorem dX0_cofactor_16 : decode cX0_cofactor 16 = .ok (.iadd, 1) := by decide +kernel
theorem dX0_cofactor_17 : decode cX0_cofactor 17 = .ok (.invokevirtual 103, 3) := by decide +kernel
theorem dX0_cofactor_20 : decode cX0_cofactor 20 = .ok (.lmul, 1) := by decide +kernel
theorem dX0_cofactor_21 : decode cX0_cofactor 21 = .ok (.aload_n 0, 1) := by decide +kernel
theorem dX0_cofactor_22 : decode cX0_cofactor 22 = .ok (.iload_n 1, 1) := by decide +kernel
theorem dX0_cofactor_23 : decode cX0_cofactor 23 = .ok (.iconst 1, 1) := by decide +kernel
theorem dX0_cofactor_24 : decode cX0_cofactor 24 = .ok (.iadd, 1) := by decide +kernel
theorem dX0_cofactor_25 : decode cX0_cofactor 25 = .ok (.iload_n 2, 1) := by decide +kernel
theorem dX0_cofactor_26 : decode cX0_cofactor 26 = .ok (.iconst 2, 1) := by decide +kernel
theorem dX0_cofactor_27 : decode cX0_cofactor 27 = .ok (.iadd, 1) := by decide +kernel
theorem dX0_cofactor_28 : decode cX0_cofactor 28 = .ok (.invokevirtual 103, 3) := by decide +kernel
theorem dX0_cofactor_31 : decode cX0_cofactor 31 = .ok (.aload_n 0, 1) := by decide +kernel
theorem dX0_cofactor_32 : decode cX0_cofactor 32 = .ok (.iload_n 1, 1) := by decide +kernel
theorem dX0_cofactor_33 : decode cX0_cofactor 33 = .ok (.iconst 2, 1) := by decide +kernel
theorem dX0_cofactor_34 : decode cX0_cofactor 34 = .ok (.iadd, 1) := by decide +kernel
theorem dX0_cofactor_35 : decode cX0_cofactor 35 = .ok (.iload_n 2, 1) := by decide +kernel
theorem dX0_cofactor_36 : decode cX0_cofactor 36 = .ok (.iconst 1, 1) := by decide +kernel
theorem dX0_cofactor_37 : decode cX0_cofactor 37 = .ok (.iadd, 1) := by decide +kernel
theorem dX0_cofactor_38 : decode cX0_cofactor 38 = .ok (.invokevirtual 103, 3) := by decide +kernel
theorem dX0_cofactor_41 : decode cX0_cofactor 41 = .ok (.lmul, 1) := by decide +kernel
theorem dX0_cofactor_42 : decode cX0_cofactor 42 = .ok (.lsub, 1) := by decide +kernel
theorem dX0_cofactor_43 : decode cX0_cofactor 43 = .ok (.lreturn, 1) := by decide +kernel
theorem dX0_entry_0 : decode cX0_entry 0 = .ok (.iload_n 1, 1) := by decide +kernel
theorem dX0_entry_1 : decode cX0_entry 1 = .ok (.iconst 3, 1) := by decide +kernel
theorem dX0_entry_2 : decode cX0_entry 2 = .ok (.irem, 1) := by decide +kernel
theorem dX0_entry_3 : decode cX0_entry 3 = .ok (.iconst 3, 1) := by decide +kernel
theorem dX0_entry_4 : decode cX0_entry 4 = .ok (.imul, 1) := by decide +kernel
theorem dX0_entry_5 : decode cX0_entry 5 = .ok (.iload_n 2, 1) := by decide +kernel
theorem dX0_entry_6 : decode cX0_entry 6 = .ok (.iconst 3, 1) := by decide +kernel
theorem dX0_entry_7 : decode cX0_entry 7 = .ok (.irem, 1) := by decide +kernel
theorem dX0_entry_8 : decode cX0_entry 8 = .ok (.iadd, 1) := by decide +kernel
theorem dX0_entry_9 : decode cX0_entry 9 = .ok (.istore_n 3, 1) := by decide +kernel
theorem dX0_entry_10 : decode cX0_entry 10 = .ok (.iload_n 3, 1) := by decide +kernel
theorem dX0_entry_11 : decode cX0_entry 11 = .ok (.ifCond .lt 18, 3) := by decide +kernel
theorem dX0_entry_14 : decode cX0_entry 14 = .ok (.iload_n 3, 1) := by decide +kernel
theorem dX0_entry_15 : decode cX0_entry 15 = .ok (.bipush 9, 2) := by decide +kernel
theorem dX0_entry_17 : decode cX0_entry 17 = .ok (.if_icmp .ge 12, 3) := by decide +kernel
theorem dX0_entry_20 : decode cX0_entry 20 = .ok (.aload_n 0, 1) := by decide +kernel
theorem dX0_entry_21 : decode cX0_entry 21 = .ok (.getfield 19, 3) := by decide +kernel
theorem dX0_entry_24 : decode cX0_entry 24 = .ok (.iload_n 3, 1) := by decide +kernel
theorem dX0_entry_25 : decode cX0_entry 25 = .ok (.laload, 1) := by decide +kernel
theorem dX0_entry_26 : decode cX0_entry 26 = .ok (.goto 4, 3) := by decide +kernel
theorem dX0_entry_29 : decode cX0_entry 29 = .ok (.lconst 0, 1) := by decide +kernel
theorem dX0_entry_30 : decode cX0_entry 30 = .ok (.lreturn, 1) := by decide +kernel
theorem dX0_putPart_0 : decode cX0_putPart 0 = .ok (.iload_n 1, 1) := by decide +kernel
theorem dX0_putPart_1 : decode cX0_putPart 1 = .ok (.ifCond .lt 15, 3) := by decide +kernel
theorem dX0_putPart_4 : decode cX0_putPart 4 = .ok (.iload_n 1, 1) := by decide +kernel
theorem dX0_putPart_5 : decode cX0_putPart 5 = .ok (.iconst 4, 1) := by decide +kernel
theorem dX0_putPart_6 : decode cX0_putPart 6 = .ok (.if_icmp .ge 10, 3) := by decide +kernel
theorem dX0_putPart_9 : decode cX0_putPart 9 = .ok (.aload_n 0, 1) := by decide +kernel
theorem dX0_putPart_10 : decode cX0_putPart 10 = .ok (.getfield 25, 3) := by decide +kernel
theorem dX0_putPart_13 : decode cX0_putPart 13 = .ok (.iload_n 1, 1) := by decide +kernel
theorem dX0_putPart_14 : decode cX0_putPart 14 = .ok (.lload_n 2, 1) := by decide +kernel
theorem dX0_putPart_15 : decode cX0_putPart 15 = .ok (.lastore, 1) := by decide +kernel
theorem dX0_putPart_16 : decode cX0_putPart 16 = .ok (.return_, 1) := by decide +kernel
theorem dX0_otherAt_0 : decode cX0_otherAt 0 = .ok (.iload_n 1, 1) := by decide +kernel
theorem dX0_otherAt_1 : decode cX0_otherAt 1 = .ok (.aload_n 0, 1) := by decide +kernel
theorem dX0_otherAt_2 : decode cX0_otherAt 2 = .ok (.getfield 49, 3) := by decide +kernel
theorem dX0_otherAt_5 : decode cX0_otherAt 5 = .ok (.if_icmp .ge 7, 3) := by decide +kernel
theorem dX0_otherAt_8 : decode cX0_otherAt 8 = .ok (.iload_n 1, 1) := by decide +kernel
theorem dX0_otherAt_9 : decode cX0_otherAt 9 = .ok (.goto 6, 3) := by decide +kernel
theorem dX0_otherAt_12 : decode cX0_otherAt 12 = .ok (.iload_n 1, 1) := by decide +kernel
theorem dX0_otherAt_13 : decode cX0_otherAt 13 = .ok (.iconst 1, 1) := by decide +kernel
theorem dX0_otherAt_14 : decode cX0_otherAt 14 = .ok (.iadd, 1) := by decide +kernel
theorem dX0_otherAt_15 : decode cX0_otherAt 15 = .ok (.ireturn, 1) := by decide +kernel
theorem dX0_fromBase_0 : decode cX0_fromBase 0 = .ok (.aload_n 0, 1) := by decide +kernel
theorem dX0_fromBase_1 : decode cX0_fromBase 1 = .ok (.iload_n 1, 1) := by decide +kernel
theorem dX0_fromBase_2 : decode cX0_fromBase 2 = .ok (.iload_n 2, 1) := by decide +kernel
theorem dX0_fromBase_3 : decode cX0_fromBase 3 = .ok (.invokevirtual 106, 3) := by decide +kernel
theorem dX0_fromBase_6 : decode cX0_fromBase 6 = .ok (.aload_n 0, 1) := by decide +kernel
theorem dX0_fromBase_7 : decode cX0_fromBase 7 = .ok (.iload_n 1, 1) := by decide +kernel
theorem dX0_fromBase_8 : decode cX0_fromBase 8 = .ok (.aload_n 0, 1) := by decide +kernel
theorem dX0_fromBase_9 : decode cX0_fromBase 9 = .ok (.getfield 49, 3) := by decide +kernel
theorem dX0_fromBase_12 : decode cX0_fromBase 12 = .ok (.invokevirtual 106, 3) := by decide +kernel
theorem dX0_fromBase_15 : decode cX0_fromBase 15 = .ok (.lsub, 1) := by decide +kernel
theorem dX0_fromBase_16 : decode cX0_fromBase 16 = .ok (.aload_n 0, 1) := by decide +kernel
theorem dX0_fromBase_17 : decode cX0_fromBase 17 = .ok (.aload_n 0, 1) := by decide +kernel
theorem dX0_fromBase_18 : decode cX0_fromBase 18 = .ok (.getfield 49, 3) := by decide +kernel
theorem dX0_fromBase_21 : decode cX0_fromBase 21 = .ok (.iload_n 2, 1) := by decide +kernel
theorem dX0_fromBase_22 : decode cX0_fromBase 22 = .ok (.invokevirtual 106, 3) := by decide +kernel
theorem dX0_fromBase_25 : decode cX0_fromBase 25 = .ok (.lsub, 1) := by decide +kernel
theorem dX0_fromBase_26 : decode cX0_fromBase 26 = .ok (.aload_n 0, 1) := by decide +kernel
theorem dX0_fromBase_27 : decode cX0_fromBase 27 = .ok (.aload_n 0, 1) := by decide +kernel
theorem dX0_fromBase_28 : decode cX0_fromBase 28 = .ok (.getfield 49, 3) := by decide +kernel
theorem dX0_fromBase_31 : decode cX0_fromBase 31 = .ok (.aload_n 0, 1) := by decide +kernel
theorem dX0_fromBase_32 : decode cX0_fromBase 32 = .ok (.getfield 49, 3) := by decide +kernel
theorem dX0_fromBase_35 : decode cX0_fromBase 35 = .ok (.invokevirtual 106, 3) := by decide +kernel
theorem dX0_fromBase_38 : decode cX0_fromBase 38 = .ok (.ladd, 1) := by decide +kernel
theorem dX0_fromBase_39 : decode cX0_fromBase 39 = .ok (.lreturn, 1) := by decide +kernel
theorem dX0_productOf_0 : decode cX0_productOf 0 = .ok (.iload_n 1, 1) := by decide +kernel
theorem dX0_productOf_1 : decode cX0_productOf 1 = .ok (.iconst 5, 1) := by decide +kernel
theorem dX0_productOf_2 : decode cX0_productOf 2 = .ok (.imul, 1) := by decide +kernel
theorem dX0_productOf_3 : decode cX0_productOf 3 = .ok (.iload_n 2, 1) := by decide +kernel
theorem dX0_productOf_4 : decode cX0_productOf 4 = .ok (.iadd, 1) := by decide +kernel
theorem dX0_productOf_5 : decode cX0_productOf 5 = .ok (.istore_n 3, 1) := by decide +kernel
theorem dX0_productOf_6 : decode cX0_productOf 6 = .ok (.iload_n 3, 1) := by decide +kernel
theorem dX0_productOf_7 : decode cX0_productOf 7 = .ok (.ifCond .lt 18, 3) := by decide +kernel
theorem dX0_productOf_10 : decode cX0_productOf 10 = .ok (.iload_n 3, 1) := by decide +kernel
theorem dX0_productOf_11 : decode cX0_productOf 11 = .ok (.bipush 25, 2) := by decide +kernel
theorem dX0_productOf_13 : decode cX0_productOf 13 = .ok (.if_icmp .ge 12, 3) := by decide +kernel
theorem dX0_productOf_16 : decode cX0_productOf 16 = .ok (.aload_n 0, 1) := by decide +kernel
theorem dX0_productOf_17 : decode cX0_productOf 17 = .ok (.getfield 15, 3) := by decide +kernel
theorem dX0_productOf_20 : decode cX0_productOf 20 = .ok (.iload_n 3, 1) := by decide +kernel
theorem dX0_productOf_21 : decode cX0_productOf 21 = .ok (.laload, 1) := by decide +kernel
theorem dX0_productOf_22 : decode cX0_productOf 22 = .ok (.goto 4, 3) := by decide +kernel
theorem dX0_productOf_25 : decode cX0_productOf 25 = .ok (.lconst 0, 1) := by decide +kernel
theorem dX0_productOf_26 : decode cX0_productOf 26 = .ok (.lreturn, 1) := by decide +kernel
theorem dX0_firstOf_0 : decode cX0_firstOf 0 = .ok (.iconst 0, 1) := by decide +kernel
theorem dX0_firstOf_1 : decode cX0_firstOf 1 = .ok (.istore_n 1, 1) := by decide +kernel
theorem dX0_firstOf_2 : decode cX0_firstOf 2 = .ok (.iload_n 1, 1) := by decide +kernel
theorem dX0_firstOf_3 : decode cX0_firstOf 3 = .ok (.iconst 4, 1) := by decide +kernel
theorem dX0_firstOf_4 : decode cX0_firstOf 4 = .ok (.if_icmp .ge 19, 3) := by decide +kernel
theorem dX0_firstOf_7 : decode cX0_firstOf 7 = .ok (.iload_n 0, 1) := by decide +kernel
theorem dX0_firstOf_8 : decode cX0_firstOf 8 = .ok (.iload_n 1, 1) := by decide +kernel
theorem dX0_firstOf_9 : decode cX0_firstOf 9 = .ok (.invokestatic 73, 3) := by decide +kernel
theorem dX0_firstOf_12 : decode cX0_firstOf 12 = .ok (.ifCond .eq 5, 3) := by decide +kernel
theorem dX0_firstOf_15 : decode cX0_firstOf 15 = .ok (.iload_n 1, 1) := by decide +kernel
theorem dX0_firstOf_16 : decode cX0_firstOf 16 = .ok (.ireturn, 1) := by decide +kernel
theorem dX0_firstOf_17 : decode cX0_firstOf 17 = .ok (.iinc 1 1, 3) := by decide +kernel
theorem dX0_firstOf_20 : decode cX0_firstOf 20 = .ok (.goto (-18), 3) := by decide +kernel
theorem dX0_firstOf_23 : decode cX0_firstOf 23 = .ok (.iconst 0, 1) := by decide +kernel
theorem dX0_firstOf_24 : decode cX0_firstOf 24 = .ok (.ireturn, 1) := by decide +kernel
theorem dX1_init_0 : decode cX1_init 0 = .ok (.aload_n 0, 1) := by decide +kernel
theorem dX1_init_1 : decode cX1_init 1 = .ok (.invokespecial 3, 3) := by decide +kernel
theorem dX1_init_4 : decode cX1_init 4 = .ok (.aload_n 0, 1) := by decide +kernel
theorem dX1_init_5 : decode cX1_init 5 = .ok (.lconst 0, 1) := by decide +kernel
theorem dX1_init_6 : decode cX1_init 6 = .ok (.putfield 9, 3) := by decide +kernel
theorem dX1_init_9 : decode cX1_init 9 = .ok (.aload_n 0, 1) := by decide +kernel
theorem dX1_init_10 : decode cX1_init 10 = .ok (.lconst 1, 1) := by decide +kernel
theorem dX1_init_11 : decode cX1_init 11 = .ok (.putfield 15, 3) := by decide +kernel
theorem dX1_init_14 : decode cX1_init 14 = .ok (.return_, 1) := by decide +kernel
theorem dX1_put_0 : decode cX1_put 0 = .ok (.lload_n 1, 1) := by decide +kernel
theorem dX1_put_1 : decode cX1_put 1 = .ok (.invokestatic 18, 3) := by decide +kernel
theorem dX1_put_4 : decode cX1_put 4 = .ok (.lload_n 3, 1) := by decide +kernel
theorem dX1_put_5 : decode cX1_put 5 = .ok (.invokestatic 24, 3) := by decide +kernel
theorem dX1_put_8 : decode cX1_put 8 = .ok (.lstore 5, 2) := by decide +kernel
theorem dX1_put_10 : decode cX1_put 10 = .ok (.lload_n 3, 1) := by decide +kernel
theorem dX1_put_11 : decode cX1_put 11 = .ok (.lconst 0, 1) := by decide +kernel
theorem dX1_put_12 : decode cX1_put 12 = .ok (.lcmp, 1) := by decide +kernel
theorem dX1_put_13 : decode cX1_put 13 = .ok (.ifCond .le 10, 3) := by decide +kernel
theorem dX1_put_16 : decode cX1_put 16 = .ok (.lload 5, 2) := by decide +kernel
theorem dX1_put_18 : decode cX1_put 18 = .ok (.lconst 0, 1) := by decide +kernel
theorem dX1_put_19 : decode cX1_put 19 = .ok (.lcmp, 1) := by decide +kernel
theorem dX1_put_20 : decode cX1_put 20 = .ok (.ifCond .gt 14, 3) := by decide +kernel
theorem dX1_put_23 : decode cX1_put 23 = .ok (.aload_n 0, 1) := by decide +kernel
theorem dX1_put_24 : decode cX1_put 24 = .ok (.lconst 0, 1) := by decide +kernel
theorem dX1_put_25 : decode cX1_put 25 = .ok (.putfield 9, 3) := by decide +kernel
theorem dX1_put_28 : decode cX1_put 28 = .ok (.aload_n 0, 1) := by decide +kernel
theorem dX1_put_29 : decode cX1_put 29 = .ok (.lconst 1, 1) := by decide +kernel
theorem dX1_put_30 : decode cX1_put 30 = .ok (.putfield 15, 3) := by decide +kernel
theorem dX1_put_33 : decode cX1_put 33 = .ok (.return_, 1) := by decide +kernel
theorem dX1_put_34 : decode cX1_put 34 = .ok (.aload_n 0, 1) := by decide +kernel
theorem dX1_put_35 : decode cX1_put 35 = .ok (.lload_n 1, 1) := by decide +kernel
theorem dX1_put_36 : decode cX1_put 36 = .ok (.lload 5, 2) := by decide +kernel
theorem dX1_put_38 : decode cX1_put 38 = .ok (.ldiv, 1) := by decide +kernel
theorem dX1_put_39 : decode cX1_put 39 = .ok (.putfield 9, 3) := by decide +kernel
theorem dX1_put_42 : decode cX1_put 42 = .ok (.aload_n 0, 1) := by decide +kernel
theorem dX1_put_43 : decode cX1_put 43 = .ok (.lload_n 3, 1) := by decide +kernel
theorem dX1_put_44 : decode cX1_put 44 = .ok (.lload 5, 2) := by decide +kernel
theorem dX1_put_46 : decode cX1_put 46 = .ok (.ldiv, 1) := by decide +kernel
theorem dX1_put_47 : decode cX1_put 47 = .ok (.putfield 15, 3) := by decide +kernel
theorem dX1_put_50 : decode cX1_put 50 = .ok (.return_, 1) := by decide +kernel
theorem dX1_copy_0 : decode cX1_copy 0 = .ok (.aload_n 0, 1) := by decide +kernel
theorem dX1_copy_1 : decode cX1_copy 1 = .ok (.aload_n 1, 1) := by decide +kernel
theorem dX1_copy_2 : decode cX1_copy 2 = .ok (.getfield 9, 3) := by decide +kernel
theorem dX1_copy_5 : decode cX1_copy 5 = .ok (.putfield 9, 3) := by decide +kernel
theorem dX1_copy_8 : decode cX1_copy 8 = .ok (.aload_n 0, 1) := by decide +kernel
theorem dX1_copy_9 : decode cX1_copy 9 = .ok (.aload_n 1, 1) := by decide +kernel
theorem dX1_copy_10 : decode cX1_copy 10 = .ok (.getfield 15, 3) := by decide +kernel
theorem dX1_copy_13 : decode cX1_copy 13 = .ok (.putfield 15, 3) := by decide +kernel
theorem dX1_copy_16 : decode cX1_copy 16 = .ok (.return_, 1) := by decide +kernel
theorem dX1_part_0 : decode cX1_part 0 = .ok (.iload_n 1, 1) := by decide +kernel
theorem dX1_part_1 : decode cX1_part 1 = .ok (.ifCond .ne 10, 3) := by decide +kernel
theorem dX1_part_4 : decode cX1_part 4 = .ok (.aload_n 0, 1) := by decide +kernel
theorem dX1_part_5 : decode cX1_part 5 = .ok (.getfield 9, 3) := by decide +kernel
theorem dX1_part_8 : decode cX1_part 8 = .ok (.goto 7, 3) := by decide +kernel
theorem dX1_part_11 : decode cX1_part 11 = .ok (.aload_n 0, 1) := by decide +kernel
theorem dX1_part_12 : decode cX1_part 12 = .ok (.getfield 15, 3) := by decide +kernel
theorem dX1_part_15 : decode cX1_part 15 = .ok (.lreturn, 1) := by decide +kernel
theorem dX1_against_0 : decode cX1_against 0 = .ok (.aload_n 0, 1) := by decide +kernel
theorem dX1_against_1 : decode cX1_against 1 = .ok (.getfield 9, 3) := by decide +kernel
theorem dX1_against_4 : decode cX1_against 4 = .ok (.lstore_n 2, 1) := by decide +kernel
theorem dX1_against_5 : decode cX1_against 5 = .ok (.aload_n 0, 1) := by decide +kernel
theorem dX1_against_6 : decode cX1_against 6 = .ok (.getfield 15, 3) := by decide +kernel
theorem dX1_against_9 : decode cX1_against 9 = .ok (.lstore 4, 2) := by decide +kernel
theorem dX1_against_11 : decode cX1_against 11 = .ok (.aload_n 1, 1) := by decide +kernel
theorem dX1_against_12 : decode cX1_against 12 = .ok (.getfield 9, 3) := by decide +kernel
theorem dX1_against_15 : decode cX1_against 15 = .ok (.lstore 6, 2) := by decide +kernel
theorem dX1_against_17 : decode cX1_against 17 = .ok (.aload_n 1, 1) := by decide +kernel
theorem dX1_against_18 : decode cX1_against 18 = .ok (.getfield 15, 3) := by decide +kernel
theorem dX1_against_21 : decode cX1_against 21 = .ok (.lstore 8, 2) := by decide +kernel
theorem dX1_against_23 : decode cX1_against 23 = .ok (.iconst 1, 1) := by decide +kernel
theorem dX1_against_24 : decode cX1_against 24 = .ok (.istore 10, 2) := by decide +kernel
theorem dX1_against_26 : decode cX1_against 26 = .ok (.iconst 0, 1) := by decide +kernel
theorem dX1_against_27 : decode cX1_against 27 = .ok (.istore 11, 2) := by decide +kernel
theorem dX1_against_29 : decode cX1_against 29 = .ok (.iload 11, 2) := by decide +kernel
theorem dX1_against_31 : decode cX1_against 31 = .ok (.sipush 200, 3) := by decide +kernel
theorem dX1_against_34 : decode cX1_against 34 = .ok (.if_icmp .ge 106, 3) := by decide +kernel
theorem dX1_against_37 : decode cX1_against 37 = .ok (.lload 4, 2) := by decide +kernel
theorem dX1_against_39 : decode cX1_against 39 = .ok (.lconst 0, 1) := by decide +kernel
theorem dX1_against_40 : decode cX1_against 40 = .ok (.lcmp, 1) := by decide +kernel
theorem dX1_against_41 : decode cX1_against 41 = .ok (.ifCond .le 99, 3) := by decide +kernel
theorem dX1_against_44 : decode cX1_against 44 = .ok (.lload 8, 2) := by decide +kernel
theorem dX1_against_46 : decode cX1_against 46 = .ok (.lconst 0, 1) := by decide +kernel
theorem dX1_against_47 : decode cX1_against 47 = .ok (.lcmp, 1) := by decide +kernel
theorem dX1_against_48 : decode cX1_against 48 = .ok (.ifCond .le 92, 3) := by decide +kernel
theorem dX1_against_51 : decode cX1_against 51 = .ok (.lload_n 2, 1) := by decide +kernel
theorem dX1_against_52 : decode cX1_against 52 = .ok (.lload 4, 2) := by decide +kernel
theorem dX1_against_54 : decode cX1_against 54 = .ok (.ldiv, 1) := by decide +kernel
theorem dX1_against_55 : decode cX1_against 55 = .ok (.lload 6, 2) := by decide +kernel
theorem dX1_against_57 : decode cX1_against 57 = .ok (.lload 8, 2) := by decide +kernel
theorem dX1_against_59 : decode cX1_against 59 = .ok (.ldiv, 1) := by decide +kernel
theorem dX1_against_60 : decode cX1_against 60 = .ok (.invokestatic 28, 3) := by decide +kernel
theorem dX1_against_63 : decode cX1_against 63 = .ok (.istore 12, 2) := by decide +kernel
theorem dX1_against_65 : decode cX1_against 65 = .ok (.lload_n 2, 1) := by decide +kernel
theorem dX1_against_66 : decode cX1_against 66 = .ok (.lload 4, 2) := by decide +kernel
theorem dX1_against_68 : decode cX1_against 68 = .ok (.lrem, 1) := by decide +kernel
theorem dX1_against_69 : decode cX1_against 69 = .ok (.lstore 13, 2) := by decide +kernel
theorem dX1_against_71 : decode cX1_against 71 = .ok (.lload 6, 2) := by decide +kernel
theorem dX1_against_73 : decode cX1_against 73 = .ok (.lload 8, 2) := by decide +kernel
theorem dX1_against_75 : decode cX1_against 75 = .ok (.lrem, 1) := by decide +kernel
theorem dX1_against_76 : decode cX1_against 76 = .ok (.lstore 15, 2) := by decide +kernel
theorem dX1_against_78 : decode cX1_against 78 = .ok (.iload 12, 2) := by decide +kernel
theorem dX1_against_80 : decode cX1_against 80 = .ok (.ifCond .eq 9, 3) := by decide +kernel
theorem dX1_against_83 : decode cX1_against 83 = .ok (.iload 10, 2) := by decide +kernel
theorem dX1_against_85 : decode cX1_against 85 = .ok (.iload 12, 2) := by decide +kernel
theorem dX1_against_87 : decode cX1_against 87 = .ok (.imul, 1) := by decide +kernel
theorem dX1_against_88 : decode cX1_against 88 = .ok (.ireturn, 1) := by decide +kernel
theorem dX1_against_89 : decode cX1_against 89 = .ok (.lload 13, 2) := by decide +kernel
theorem dX1_against_91 : decode cX1_against 91 = .ok (.lconst 0, 1) := by decide +kernel
theorem dX1_against_92 : decode cX1_against 92 = .ok (.lcmp, 1) := by decide +kernel
theorem dX1_against_93 : decode cX1_against 93 = .ok (.ifCond .eq 10, 3) := by decide +kernel
theorem dX1_against_96 : decode cX1_against 96 = .ok (.lload 15, 2) := by decide +kernel
theorem dX1_against_98 : decode cX1_against 98 = .ok (.lconst 0, 1) := by decide +kernel
theorem dX1_against_99 : decode cX1_against 99 = .ok (.lcmp, 1) := by decide +kernel
theorem dX1_against_100 : decode cX1_against 100 = .ok (.ifCond .ne 14, 3) := by decide +kernel
theorem dX1_against_103 : decode cX1_against 103 = .ok (.iload 10, 2) := by decide +kernel
theorem dX1_against_105 : decode cX1_against 105 = .ok (.lload 13, 2) := by decide +kernel
theorem dX1_against_107 : decode cX1_against 107 = .ok (.lload 15, 2) := by decide +kernel
theorem dX1_against_109 : decode cX1_against 109 = .ok (.invokestatic 28, 3) := by decide +kernel
theorem dX1_against_112 : decode cX1_against 112 = .ok (.imul, 1) := by decide +kernel
theorem dX1_against_113 : decode cX1_against 113 = .ok (.ireturn, 1) := by decide +kernel
theorem dX1_against_114 : decode cX1_against 114 = .ok (.lload 4, 2) := by decide +kernel
theorem dX1_against_116 : decode cX1_against 116 = .ok (.lstore_n 2, 1) := by decide +kernel
theorem dX1_against_117 : decode cX1_against 117 = .ok (.lload 13, 2) := by decide +kernel
theorem dX1_against_119 : decode cX1_against 119 = .ok (.lstore 4, 2) := by decide +kernel
theorem dX1_against_121 : decode cX1_against 121 = .ok (.lload 8, 2) := by decide +kernel
theorem dX1_against_123 : decode cX1_against 123 = .ok (.lstore 6, 2) := by decide +kernel
theorem dX1_against_125 : decode cX1_against 125 = .ok (.lload 15, 2) := by decide +kernel
theorem dX1_against_127 : decode cX1_against 127 = .ok (.lstore 8, 2) := by decide +kernel
theorem dX1_against_129 : decode cX1_against 129 = .ok (.iload 10, 2) := by decide +kernel
theorem dX1_against_131 : decode cX1_against 131 = .ok (.ineg, 1) := by decide +kernel
theorem dX1_against_132 : decode cX1_against 132 = .ok (.istore 10, 2) := by decide +kernel
theorem dX1_against_134 : decode cX1_against 134 = .ok (.iinc 11 1, 3) := by decide +kernel
theorem dX1_against_137 : decode cX1_against 137 = .ok (.goto (-108), 3) := by decide +kernel
theorem dX1_against_140 : decode cX1_against 140 = .ok (.iconst 0, 1) := by decide +kernel
theorem dX1_against_141 : decode cX1_against 141 = .ok (.ireturn, 1) := by decide +kernel
theorem dX1_commonDivisor_0 : decode cX1_commonDivisor 0 = .ok (.lload_n 0, 1) := by decide +kernel
theorem dX1_commonDivisor_1 : decode cX1_commonDivisor 1 = .ok (.lstore 4, 2) := by decide +kernel
theorem dX1_commonDivisor_3 : decode cX1_commonDivisor 3 = .ok (.lload_n 2, 1) := by decide +kernel
theorem dX1_commonDivisor_4 : decode cX1_commonDivisor 4 = .ok (.lstore 6, 2) := by decide +kernel
theorem dX1_commonDivisor_6 : decode cX1_commonDivisor 6 = .ok (.iconst 0, 1) := by decide +kernel
theorem dX1_commonDivisor_7 : decode cX1_commonDivisor 7 = .ok (.istore 8, 2) := by decide +kernel
theorem dX1_commonDivisor_9 : decode cX1_commonDivisor 9 = .ok (.iload 8, 2) := by decide +kernel
theorem dX1_commonDivisor_11 : decode cX1_commonDivisor 11 = .ok (.sipush 200, 3) := by decide +kernel
theorem dX1_commonDivisor_14 : decode cX1_commonDivisor 14 = .ok (.if_icmp .ge 31, 3) := by decide +kernel
theorem dX1_commonDivisor_17 : decode cX1_commonDivisor 17 = .ok (.lload 6, 2) := by decide +kernel
theorem dX1_commonDivisor_19 : decode cX1_commonDivisor 19 = .ok (.lconst 0, 1) := by decide +kernel
theorem dX1_commonDivisor_20 : decode cX1_commonDivisor 20 = .ok (.lcmp, 1) := by decide +kernel
theorem dX1_commonDivisor_21 : decode cX1_commonDivisor 21 = .ok (.ifCond .le 24, 3) := by decide +kernel
theorem dX1_commonDivisor_24 : decode cX1_commonDivisor 24 = .ok (.lload 4, 2) := by decide +kernel
theorem dX1_commonDivisor_26 : decode cX1_commonDivisor 26 = .ok (.lload 6, 2) := by decide +kernel
theorem dX1_commonDivisor_28 : decode cX1_commonDivisor 28 = .ok (.lrem, 1) := by decide +kernel
theorem dX1_commonDivisor_29 : decode cX1_commonDivisor 29 = .ok (.lstore 9, 2) := by decide +kernel
theorem dX1_commonDivisor_31 : decode cX1_commonDivisor 31 = .ok (.lload 6, 2) := by decide +kernel
theorem dX1_commonDivisor_33 : decode cX1_commonDivisor 33 = .ok (.lstore 4, 2) := by decide +kernel
theorem dX1_commonDivisor_35 : decode cX1_commonDivisor 35 = .ok (.lload 9, 2) := by decide +kernel
theorem dX1_commonDivisor_37 : decode cX1_commonDivisor 37 = .ok (.lstore 6, 2) := by decide +kernel
theorem dX1_commonDivisor_39 : decode cX1_commonDivisor 39 = .ok (.iinc 8 1, 3) := by decide +kernel
theorem dX1_commonDivisor_42 : decode cX1_commonDivisor 42 = .ok (.goto (-33), 3) := by decide +kernel
theorem dX1_commonDivisor_45 : decode cX1_commonDivisor 45 = .ok (.lload 4, 2) := by decide +kernel
theorem dX1_commonDivisor_47 : decode cX1_commonDivisor 47 = .ok (.lreturn, 1) := by decide +kernel
theorem dX2_init_0 : decode cX2_init 0 = .ok (.aload_n 0, 1) := by decide +kernel
theorem dX2_init_1 : decode cX2_init 1 = .ok (.invokespecial 3, 3) := by decide +kernel
theorem dX2_init_4 : decode cX2_init 4 = .ok (.aload_n 0, 1) := by decide +kernel
theorem dX2_init_5 : decode cX2_init 5 = .ok (.bipush 20, 2) := by decide +kernel
theorem dX2_init_7 : decode cX2_init 7 = .ok (.newarray .int, 2) := by decide +kernel
theorem dX2_init_9 : decode cX2_init 9 = .ok (.putfield 9, 3) := by decide +kernel
theorem dX2_init_12 : decode cX2_init 12 = .ok (.aload_n 0, 1) := by decide +kernel
theorem dX2_init_13 : decode cX2_init 13 = .ok (.iconst 4, 1) := by decide +kernel
theorem dX2_init_14 : decode cX2_init 14 = .ok (.newarray .int, 2) := by decide +kernel
theorem dX2_init_16 : decode cX2_init 16 = .ok (.putfield 15, 3) := by decide +kernel
theorem dX2_init_19 : decode cX2_init 19 = .ok (.return_, 1) := by decide +kernel
theorem dX2_become_0 : decode cX2_become 0 = .ok (.aload_n 0, 1) := by decide +kernel
theorem dX2_become_1 : decode cX2_become 1 = .ok (.aload_n 1, 1) := by decide +kernel
theorem dX2_become_2 : decode cX2_become 2 = .ok (.invokevirtual 18, 3) := by decide +kernel
theorem dX2_become_5 : decode cX2_become 5 = .ok (.putfield 24, 3) := by decide +kernel
theorem dX2_become_8 : decode cX2_become 8 = .ok (.aload_n 0, 1) := by decide +kernel
theorem dX2_become_9 : decode cX2_become 9 = .ok (.aload_n 1, 1) := by decide +kernel
theorem dX2_become_10 : decode cX2_become 10 = .ok (.invokevirtual 28, 3) := by decide +kernel
theorem dX2_become_13 : decode cX2_become 13 = .ok (.putfield 31, 3) := by decide +kernel
theorem dX2_become_16 : decode cX2_become 16 = .ok (.iconst 0, 1) := by decide +kernel
theorem dX2_become_17 : decode cX2_become 17 = .ok (.istore_n 2, 1) := by decide +kernel
theorem dX2_become_18 : decode cX2_become 18 = .ok (.iload_n 2, 1) := by decide +kernel
theorem dX2_become_19 : decode cX2_become 19 = .ok (.iconst 4, 1) := by decide +kernel
theorem dX2_become_20 : decode cX2_become 20 = .ok (.if_icmp .ge 55, 3) := by decide +kernel
theorem dX2_become_23 : decode cX2_become 23 = .ok (.iconst 0, 1) := by decide +kernel
theorem dX2_become_24 : decode cX2_become 24 = .ok (.istore_n 3, 1) := by decide +kernel
theorem dX2_become_25 : decode cX2_become 25 = .ok (.iload_n 3, 1) := by decide +kernel
theorem dX2_become_26 : decode cX2_become 26 = .ok (.iconst 4, 1) := by decide +kernel
theorem dX2_become_27 : decode cX2_become 27 = .ok (.if_icmp .ge 25, 3) := by decide +kernel
theorem dX2_become_30 : decode cX2_become 30 = .ok (.aload_n 0, 1) := by decide +kernel
theorem dX2_become_31 : decode cX2_become 31 = .ok (.getfield 9, 3) := by decide +kernel
theorem dX2_become_34 : decode cX2_become 34 = .ok (.iload_n 3, 1) := by decide +kernel
theorem dX2_become_35 : decode cX2_become 35 = .ok (.iconst 4, 1) := by decide +kernel
theorem dX2_become_36 : decode cX2_become 36 = .ok (.imul, 1) := by decide +kernel
theorem dX2_become_37 : decode cX2_become 37 = .ok (.iload_n 2, 1) := by decide +kernel
theorem dX2_become_38 : decode cX2_become 38 = .ok (.iadd, 1) := by decide +kernel
theorem dX2_become_39 : decode cX2_become 39 = .ok (.aload_n 1, 1) := by decide +kernel
theorem dX2_become_40 : decode cX2_become 40 = .ok (.iload_n 3, 1) := by decide +kernel
theorem dX2_become_41 : decode cX2_become 41 = .ok (.iload_n 2, 1) := by decide +kernel
theorem dX2_become_42 : decode cX2_become 42 = .ok (.invokevirtual 34, 3) := by decide +kernel
theorem dX2_become_45 : decode cX2_become 45 = .ok (.iastore, 1) := by decide +kernel
theorem dX2_become_46 : decode cX2_become 46 = .ok (.iinc 3 1, 3) := by decide +kernel
theorem dX2_become_49 : decode cX2_become 49 = .ok (.goto (-24), 3) := by decide +kernel
theorem dX2_become_52 : decode cX2_become 52 = .ok (.aload_n 0, 1) := by decide +kernel
theorem dX2_become_53 : decode cX2_become 53 = .ok (.getfield 9, 3) := by decide +kernel
theorem dX2_become_56 : decode cX2_become 56 = .ok (.bipush 16, 2) := by decide +kernel
theorem dX2_become_58 : decode cX2_become 58 = .ok (.iload_n 2, 1) := by decide +kernel
theorem dX2_become_59 : decode cX2_become 59 = .ok (.iadd, 1) := by decide +kernel
theorem dX2_become_60 : decode cX2_become 60 = .ok (.iconst 0, 1) := by decide +kernel
theorem dX2_become_61 : decode cX2_become 61 = .ok (.iastore, 1) := by decide +kernel
theorem dX2_become_62 : decode cX2_become 62 = .ok (.aload_n 0, 1) := by decide +kernel
theorem dX2_become_63 : decode cX2_become 63 = .ok (.getfield 15, 3) := by decide +kernel
theorem dX2_become_66 : decode cX2_become 66 = .ok (.iload_n 2, 1) := by decide +kernel
theorem dX2_become_67 : decode cX2_become 67 = .ok (.iconst 1, 1) := by decide +kernel
theorem dX2_become_68 : decode cX2_become 68 = .ok (.iastore, 1) := by decide +kernel
theorem dX2_become_69 : decode cX2_become 69 = .ok (.iinc 2 1, 3) := by decide +kernel
theorem dX2_become_72 : decode cX2_become 72 = .ok (.goto (-54), 3) := by decide +kernel
theorem dX2_become_75 : decode cX2_become 75 = .ok (.return_, 1) := by decide +kernel
theorem dX2_isSource_0 : decode cX2_isSource 0 = .ok (.iload_n 1, 1) := by decide +kernel
theorem dX2_isSource_1 : decode cX2_isSource 1 = .ok (.ifCond .lt 15, 3) := by decide +kernel
theorem dX2_isSource_4 : decode cX2_isSource 4 = .ok (.iload_n 1, 1) := by decide +kernel
theorem dX2_isSource_5 : decode cX2_isSource 5 = .ok (.aload_n 0, 1) := by decide +kernel
theorem dX2_isSource_6 : decode cX2_isSource 6 = .ok (.getfield 24, 3) := by decide +kernel
theorem dX2_isSource_9 : decode cX2_isSource 9 = .ok (.if_icmp .ge 7, 3) := by decide +kernel
theorem dX2_isSource_12 : decode cX2_isSource 12 = .ok (.iconst 1, 1) := by decide +kernel
theorem dX2_isSource_13 : decode cX2_isSource 13 = .ok (.goto 4, 3) := by decide +kernel
theorem dX2_isSource_16 : decode cX2_isSource 16 = .ok (.iconst 0, 1) := by decide +kernel
theorem dX2_isSource_17 : decode cX2_isSource 17 = .ok (.ireturn, 1) := by decide +kernel
theorem dX2_isTracer_0 : decode cX2_isTracer 0 = .ok (.iload_n 1, 1) := by decide +kernel
theorem dX2_isTracer_1 : decode cX2_isTracer 1 = .ok (.ifCond .lt 15, 3) := by decide +kernel
theorem dX2_isTracer_4 : decode cX2_isTracer 4 = .ok (.iload_n 1, 1) := by decide +kernel
theorem dX2_isTracer_5 : decode cX2_isTracer 5 = .ok (.aload_n 0, 1) := by decide +kernel
theorem dX2_isTracer_6 : decode cX2_isTracer 6 = .ok (.getfield 31, 3) := by decide +kernel
theorem dX2_isTracer_9 : decode cX2_isTracer 9 = .ok (.if_icmp .ge 7, 3) := by decide +kernel
theorem dX2_isTracer_12 : decode cX2_isTracer 12 = .ok (.iconst 1, 1) := by decide +kernel
theorem dX2_isTracer_13 : decode cX2_isTracer 13 = .ok (.goto 4, 3) := by decide +kernel
theorem dX2_isTracer_16 : decode cX2_isTracer 16 = .ok (.iconst 0, 1) := by decide +kernel
theorem dX2_isTracer_17 : decode cX2_isTracer 17 = .ok (.ireturn, 1) := by decide +kernel
theorem dX2_isSet_0 : decode cX2_isSet 0 = .ok (.iload_n 1, 1) := by decide +kernel
theorem dX2_isSet_1 : decode cX2_isSet 1 = .ok (.iconst 1, 1) := by decide +kernel
theorem dX2_isSet_2 : decode cX2_isSet 2 = .ok (.if_icmp .lt 15, 3) := by decide +kernel
theorem dX2_isSet_5 : decode cX2_isSet 5 = .ok (.iload_n 1, 1) := by decide +kernel
theorem dX2_isSet_6 : decode cX2_isSet 6 = .ok (.aload_n 0, 1) := by decide +kernel
theorem dX2_isSet_7 : decode cX2_isSet 7 = .ok (.invokevirtual 38, 3) := by decide +kernel
theorem dX2_isSet_10 : decode cX2_isSet 10 = .ok (.if_icmp .gt 7, 3) := by decide +kernel
theorem dX2_isSet_13 : decode cX2_isSet 13 = .ok (.iconst 1, 1) := by decide +kernel
theorem dX2_isSet_14 : decode cX2_isSet 14 = .ok (.goto 4, 3) := by decide +kernel
theorem dX2_isSet_17 : decode cX2_isSet 17 = .ok (.iconst 0, 1) := by decide +kernel
theorem dX2_isSet_18 : decode cX2_isSet 18 = .ok (.ireturn, 1) := by decide +kernel
theorem dX2_isUsed_0 : decode cX2_isUsed 0 = .ok (.iload_n 1, 1) := by decide +kernel
theorem dX2_isUsed_1 : decode cX2_isUsed 1 = .ok (.iconst 1, 1) := by decide +kernel
theorem dX2_isUsed_2 : decode cX2_isUsed 2 = .ok (.if_icmp .lt 15, 3) := by decide +kernel
theorem dX2_isUsed_5 : decode cX2_isUsed 5 = .ok (.iload_n 1, 1) := by decide +kernel
theorem dX2_isUsed_6 : decode cX2_isUsed 6 = .ok (.aload_n 0, 1) := by decide +kernel
theorem dX2_isUsed_7 : decode cX2_isUsed 7 = .ok (.invokevirtual 41, 3) := by decide +kernel
theorem dX2_isUsed_10 : decode cX2_isUsed 10 = .ok (.if_icmp .gt 7, 3) := by decide +kernel
theorem dX2_isUsed_13 : decode cX2_isUsed 13 = .ok (.iconst 1, 1) := by decide +kernel
theorem dX2_isUsed_14 : decode cX2_isUsed 14 = .ok (.goto 4, 3) := by decide +kernel
theorem dX2_isUsed_17 : decode cX2_isUsed 17 = .ok (.iconst 0, 1) := by decide +kernel
theorem dX2_isUsed_18 : decode cX2_isUsed 18 = .ok (.ireturn, 1) := by decide +kernel
theorem dX2_allSources_0 : decode cX2_allSources 0 = .ok (.iconst 1, 1) := by decide +kernel
theorem dX2_allSources_1 : decode cX2_allSources 1 = .ok (.aload_n 0, 1) := by decide +kernel
theorem dX2_allSources_2 : decode cX2_allSources 2 = .ok (.getfield 24, 3) := by decide +kernel
theorem dX2_allSources_5 : decode cX2_allSources 5 = .ok (.ishl, 1) := by decide +kernel
theorem dX2_allSources_6 : decode cX2_allSources 6 = .ok (.iconst 1, 1) := by decide +kernel
theorem dX2_allSources_7 : decode cX2_allSources 7 = .ok (.isub, 1) := by decide +kernel
theorem dX2_allSources_8 : decode cX2_allSources 8 = .ok (.ireturn, 1) := by decide +kernel
theorem dX2_allTracers_0 : decode cX2_allTracers 0 = .ok (.iconst 1, 1) := by decide +kernel
theorem dX2_allTracers_1 : decode cX2_allTracers 1 = .ok (.aload_n 0, 1) := by decide +kernel
theorem dX2_allTracers_2 : decode cX2_allTracers 2 = .ok (.getfield 31, 3) := by decide +kernel
theorem dX2_allTracers_5 : decode cX2_allTracers 5 = .ok (.ishl, 1) := by decide +kernel
theorem dX2_allTracers_6 : decode cX2_allTracers 6 = .ok (.iconst 1, 1) := by decide +kernel
theorem dX2_allTracers_7 : decode cX2_allTracers 7 = .ok (.isub, 1) := by decide +kernel
theorem dX2_allTracers_8 : decode cX2_allTracers 8 = .ok (.ireturn, 1) := by decide +kernel
theorem dX2_heldOf_0 : decode cX2_heldOf 0 = .ok (.iload_n 1, 1) := by decide +kernel
theorem dX2_heldOf_1 : decode cX2_heldOf 1 = .ok (.iload_n 2, 1) := by decide +kernel
theorem dX2_heldOf_2 : decode cX2_heldOf 2 = .ok (.invokestatic 44, 3) := by decide +kernel
theorem dX2_heldOf_5 : decode cX2_heldOf 5 = .ok (.ifCond .eq 16, 3) := by decide +kernel
theorem dX2_heldOf_8 : decode cX2_heldOf 8 = .ok (.aload_n 0, 1) := by decide +kernel
theorem dX2_heldOf_9 : decode cX2_heldOf 9 = .ok (.getfield 9, 3) := by decide +kernel
theorem dX2_heldOf_12 : decode cX2_heldOf 12 = .ok (.iload_n 1, 1) := by decide +kernel
theorem dX2_heldOf_13 : decode cX2_heldOf 13 = .ok (.iconst 4, 1) := by decide +kernel
theorem dX2_heldOf_14 : decode cX2_heldOf 14 = .ok (.imul, 1) := by decide +kernel
theorem dX2_heldOf_15 : decode cX2_heldOf 15 = .ok (.iload_n 2, 1) := by decide +kernel
theorem dX2_heldOf_16 : decode cX2_heldOf 16 = .ok (.iadd, 1) := by decide +kernel
theorem dX2_heldOf_17 : decode cX2_heldOf 17 = .ok (.iaload, 1) := by decide +kernel
theorem dX2_heldOf_18 : decode cX2_heldOf 18 = .ok (.goto 4, 3) := by decide +kernel
theorem dX2_heldOf_21 : decode cX2_heldOf 21 = .ok (.iconst 0, 1) := by decide +kernel
theorem dX2_heldOf_22 : decode cX2_heldOf 22 = .ok (.ireturn, 1) := by decide +kernel
theorem dX2_putHeld_0 : decode cX2_putHeld 0 = .ok (.iload_n 1, 1) := by decide +kernel
theorem dX2_putHeld_1 : decode cX2_putHeld 1 = .ok (.iload_n 2, 1) := by decide +kernel
theorem dX2_putHeld_2 : decode cX2_putHeld 2 = .ok (.invokestatic 44, 3) := by decide +kernel
theorem dX2_putHeld_5 : decode cX2_putHeld 5 = .ok (.ifCond .eq 14, 3) := by decide +kernel
theorem dX2_putHeld_8 : decode cX2_putHeld 8 = .ok (.aload_n 0, 1) := by decide +kernel
theorem dX2_putHeld_9 : decode cX2_putHeld 9 = .ok (.getfield 9, 3) := by decide +kernel
theorem dX2_putHeld_12 : decode cX2_putHeld 12 = .ok (.iload_n 1, 1) := by decide +kernel
theorem dX2_putHeld_13 : decode cX2_putHeld 13 = .ok (.iconst 4, 1) := by decide +kernel
theorem dX2_putHeld_14 : decode cX2_putHeld 14 = .ok (.imul, 1) := by decide +kernel
theorem dX2_putHeld_15 : decode cX2_putHeld 15 = .ok (.iload_n 2, 1) := by decide +kernel
theorem dX2_putHeld_16 : decode cX2_putHeld 16 = .ok (.iadd, 1) := by decide +kernel
theorem dX2_putHeld_17 : decode cX2_putHeld 17 = .ok (.iload_n 3, 1) := by decide +kernel
theorem dX2_putHeld_18 : decode cX2_putHeld 18 = .ok (.iastore, 1) := by decide +kernel
theorem dX2_putHeld_19 : decode cX2_putHeld 19 = .ok (.return_, 1) := by decide +kernel
theorem dX2_weightOf_0 : decode cX2_weightOf 0 = .ok (.iload_n 1, 1) := by decide +kernel
theorem dX2_weightOf_1 : decode cX2_weightOf 1 = .ok (.ifCond .lt 17, 3) := by decide +kernel
theorem dX2_weightOf_4 : decode cX2_weightOf 4 = .ok (.iload_n 1, 1) := by decide +kernel
theorem dX2_weightOf_5 : decode cX2_weightOf 5 = .ok (.iconst 4, 1) := by decide +kernel
theorem dX2_weightOf_6 : decode cX2_weightOf 6 = .ok (.if_icmp .ge 12, 3) := by decide +kernel
theorem dX2_weightOf_9 : decode cX2_weightOf 9 = .ok (.aload_n 0, 1) := by decide +kernel
theorem dX2_weightOf_10 : decode cX2_weightOf 10 = .ok (.getfield 15, 3) := by decide +kernel
theorem dX2_weightOf_13 : decode cX2_weightOf 13 = .ok (.iload_n 1, 1) := by decide +kernel
theorem dX2_weightOf_14 : decode cX2_weightOf 14 = .ok (.iaload, 1) := by decide +kernel
theorem dX2_weightOf_15 : decode cX2_weightOf 15 = .ok (.goto 4, 3) := by decide +kernel
theorem dX2_weightOf_18 : decode cX2_weightOf 18 = .ok (.iconst 0, 1) := by decide +kernel
theorem dX2_weightOf_19 : decode cX2_weightOf 19 = .ok (.ireturn, 1) := by decide +kernel
theorem dX2_putWeight_0 : decode cX2_putWeight 0 = .ok (.iload_n 1, 1) := by decide +kernel
theorem dX2_putWeight_1 : decode cX2_putWeight 1 = .ok (.ifCond .lt 15, 3) := by decide +kernel
theorem dX2_putWeight_4 : decode cX2_putWeight 4 = .ok (.iload_n 1, 1) := by decide +kernel
theorem dX2_putWeight_5 : decode cX2_putWeight 5 = .ok (.iconst 4, 1) := by decide +kernel
theorem dX2_putWeight_6 : decode cX2_putWeight 6 = .ok (.if_icmp .ge 10, 3) := by decide +kernel
theorem dX2_putWeight_9 : decode cX2_putWeight 9 = .ok (.aload_n 0, 1) := by decide +kernel
theorem dX2_putWeight_10 : decode cX2_putWeight 10 = .ok (.getfield 15, 3) := by decide +kernel
theorem dX2_putWeight_13 : decode cX2_putWeight 13 = .ok (.iload_n 1, 1) := by decide +kernel
theorem dX2_putWeight_14 : decode cX2_putWeight 14 = .ok (.iload_n 2, 1) := by decide +kernel
theorem dX2_putWeight_15 : decode cX2_putWeight 15 = .ok (.iastore, 1) := by decide +kernel
theorem dX2_putWeight_16 : decode cX2_putWeight 16 = .ok (.return_, 1) := by decide +kernel
theorem dX2_heldByParts_0 : decode cX2_heldByParts 0 = .ok (.iconst 0, 1) := by decide +kernel
theorem dX2_heldByParts_1 : decode cX2_heldByParts 1 = .ok (.istore_n 3, 1) := by decide +kernel
theorem dX2_heldByParts_2 : decode cX2_heldByParts 2 = .ok (.iload_n 2, 1) := by decide +kernel
theorem dX2_heldByParts_3 : decode cX2_heldByParts 3 = .ok (.istore 4, 2) := by decide +kernel
theorem dX2_heldByParts_5 : decode cX2_heldByParts 5 = .ok (.iconst 0, 1) := by decide +kernel
theorem dX2_heldByParts_6 : decode cX2_heldByParts 6 = .ok (.istore 5, 2) := by decide +kernel
theorem dX2_heldByParts_8 : decode cX2_heldByParts 8 = .ok (.iload 5, 2) := by decide +kernel
theorem dX2_heldByParts_10 : decode cX2_heldByParts 10 = .ok (.iconst 4, 1) := by decide +kernel
theorem dX2_heldByParts_11 : decode cX2_heldByParts 11 = .ok (.if_icmp .ge 32, 3) := by decide +kernel
theorem dX2_heldByParts_14 : decode cX2_heldByParts 14 = .ok (.iload_n 3, 1) := by decide +kernel
theorem dX2_heldByParts_15 : decode cX2_heldByParts 15 = .ok (.iload 4, 2) := by decide +kernel
theorem dX2_heldByParts_17 : decode cX2_heldByParts 17 = .ok (.bipush 10, 2) := by decide +kernel
theorem dX2_heldByParts_19 : decode cX2_heldByParts 19 = .ok (.irem, 1) := by decide +kernel
theorem dX2_heldByParts_20 : decode cX2_heldByParts 20 = .ok (.aload_n 0, 1) := by decide +kernel
theorem dX2_heldByParts_21 : decode cX2_heldByParts 21 = .ok (.iload 5, 2) := by decide +kernel
theorem dX2_heldByParts_23 : decode cX2_heldByParts 23 = .ok (.iload_n 1, 1) := by decide +kernel
theorem dX2_heldByParts_24 : decode cX2_heldByParts 24 = .ok (.invokevirtual 48, 3) := by decide +kernel
theorem dX2_heldByParts_27 : decode cX2_heldByParts 27 = .ok (.imul, 1) := by decide +kernel
theorem dX2_heldByParts_28 : decode cX2_heldByParts 28 = .ok (.iadd, 1) := by decide +kernel
theorem dX2_heldByParts_29 : decode cX2_heldByParts 29 = .ok (.istore_n 3, 1) := by decide +kernel
theorem dX2_heldByParts_30 : decode cX2_heldByParts 30 = .ok (.iload 4, 2) := by decide +kernel
theorem dX2_heldByParts_32 : decode cX2_heldByParts 32 = .ok (.bipush 10, 2) := by decide +kernel
theorem dX2_heldByParts_34 : decode cX2_heldByParts 34 = .ok (.idiv, 1) := by decide +kernel
theorem dX2_heldByParts_35 : decode cX2_heldByParts 35 = .ok (.istore 4, 2) := by decide +kernel
theorem dX2_heldByParts_37 : decode cX2_heldByParts 37 = .ok (.iinc 5 1, 3) := by decide +kernel
theorem dX2_heldByParts_40 : decode cX2_heldByParts 40 = .ok (.goto (-32), 3) := by decide +kernel
theorem dX2_heldByParts_43 : decode cX2_heldByParts 43 = .ok (.iload_n 3, 1) := by decide +kernel
theorem dX2_heldByParts_44 : decode cX2_heldByParts 44 = .ok (.ireturn, 1) := by decide +kernel
theorem dX2_firstAlike_0 : decode cX2_firstAlike 0 = .ok (.iconst 0, 1) := by decide +kernel
theorem dX2_firstAlike_1 : decode cX2_firstAlike 1 = .ok (.istore_n 3, 1) := by decide +kernel
theorem dX2_firstAlike_2 : decode cX2_firstAlike 2 = .ok (.iload_n 3, 1) := by decide +kernel
theorem dX2_firstAlike_3 : decode cX2_firstAlike 3 = .ok (.iload_n 1, 1) := by decide +kernel
theorem dX2_firstAlike_4 : decode cX2_firstAlike 4 = .ok (.if_icmp .ge 21, 3) := by decide +kernel
theorem dX2_firstAlike_7 : decode cX2_firstAlike 7 = .ok (.aload_n 0, 1) := by decide +kernel
theorem dX2_firstAlike_8 : decode cX2_firstAlike 8 = .ok (.iload_n 3, 1) := by decide +kernel
theorem dX2_firstAlike_9 : decode cX2_firstAlike 9 = .ok (.iload_n 1, 1) := by decide +kernel
theorem dX2_firstAlike_10 : decode cX2_firstAlike 10 = .ok (.iload_n 2, 1) := by decide +kernel
theorem dX2_firstAlike_11 : decode cX2_firstAlike 11 = .ok (.invokevirtual 51, 3) := by decide +kernel
theorem dX2_firstAlike_14 : decode cX2_firstAlike 14 = .ok (.ifCond .eq 5, 3) := by decide +kernel
theorem dX2_firstAlike_17 : decode cX2_firstAlike 17 = .ok (.iload_n 3, 1) := by decide +kernel
theorem dX2_firstAlike_18 : decode cX2_firstAlike 18 = .ok (.ireturn, 1) := by decide +kernel
theorem dX2_firstAlike_19 : decode cX2_firstAlike 19 = .ok (.iinc 3 1, 3) := by decide +kernel
theorem dX2_firstAlike_22 : decode cX2_firstAlike 22 = .ok (.goto (-20), 3) := by decide +kernel
theorem dX2_firstAlike_25 : decode cX2_firstAlike 25 = .ok (.iload_n 1, 1) := by decide +kernel
theorem dX2_firstAlike_26 : decode cX2_firstAlike 26 = .ok (.ireturn, 1) := by decide +kernel
theorem dX2_product_0 : decode cX2_product 0 = .ok (.lconst 0, 1) := by decide +kernel
theorem dX2_product_1 : decode cX2_product 1 = .ok (.lstore 4, 2) := by decide +kernel
theorem dX2_product_3 : decode cX2_product 3 = .ok (.iconst 0, 1) := by decide +kernel
theorem dX2_product_4 : decode cX2_product 4 = .ok (.istore 6, 2) := by decide +kernel
theorem dX2_product_6 : decode cX2_product 6 = .ok (.iload 6, 2) := by decide +kernel
theorem dX2_product_8 : decode cX2_product 8 = .ok (.iconst 4, 1) := by decide +kernel
theorem dX2_product_9 : decode cX2_product 9 = .ok (.if_icmp .ge 48, 3) := by decide +kernel
theorem dX2_product_12 : decode cX2_product 12 = .ok (.iload_n 3, 1) := by decide +kernel
theorem dX2_product_13 : decode cX2_product 13 = .ok (.iload 6, 2) := by decide +kernel
theorem dX2_product_15 : decode cX2_product 15 = .ok (.invokestatic 55, 3) := by decide +kernel
theorem dX2_product_18 : decode cX2_product 18 = .ok (.ifCond .eq 33, 3) := by decide +kernel
theorem dX2_product_21 : decode cX2_product 21 = .ok (.lload 4, 2) := by decide +kernel
theorem dX2_product_23 : decode cX2_product 23 = .ok (.aload_n 0, 1) := by decide +kernel
theorem dX2_product_24 : decode cX2_product 24 = .ok (.iload 6, 2) := by decide +kernel
theorem dX2_product_26 : decode cX2_product 26 = .ok (.invokevirtual 58, 3) := by decide +kernel
theorem dX2_product_29 : decode cX2_product 29 = .ok (.i2l, 1) := by decide +kernel
theorem dX2_product_30 : decode cX2_product 30 = .ok (.aload_n 0, 1) := by decide +kernel
theorem dX2_product_31 : decode cX2_product 31 = .ok (.iload_n 1, 1) := by decide +kernel
theorem dX2_product_32 : decode cX2_product 32 = .ok (.iload 6, 2) := by decide +kernel
theorem dX2_product_34 : decode cX2_product 34 = .ok (.invokevirtual 48, 3) := by decide +kernel
theorem dX2_product_37 : decode cX2_product 37 = .ok (.i2l, 1) := by decide +kernel
theorem dX2_product_38 : decode cX2_product 38 = .ok (.lmul, 1) := by decide +kernel
theorem dX2_product_39 : decode cX2_product 39 = .ok (.aload_n 0, 1) := by decide +kernel
theorem dX2_product_40 : decode cX2_product 40 = .ok (.iload_n 2, 1) := by decide +kernel
theorem dX2_product_41 : decode cX2_product 41 = .ok (.iload 6, 2) := by decide +kernel
theorem dX2_product_43 : decode cX2_product 43 = .ok (.invokevirtual 48, 3) := by decide +kernel
theorem dX2_product_46 : decode cX2_product 46 = .ok (.i2l, 1) := by decide +kernel
theorem dX2_product_47 : decode cX2_product 47 = .ok (.lmul, 1) := by decide +kernel
theorem dX2_product_48 : decode cX2_product 48 = .ok (.ladd, 1) := by decide +kernel
theorem dX2_product_49 : decode cX2_product 49 = .ok (.lstore 4, 2) := by decide +kernel
theorem dX2_product_51 : decode cX2_product 51 = .ok (.iinc 6 1, 3) := by decide +kernel
theorem dX2_product_54 : decode cX2_product 54 = .ok (.goto (-48), 3) := by decide +kernel
theorem dX2_product_57 : decode cX2_product 57 = .ok (.lload 4, 2) := by decide +kernel
theorem dX2_product_59 : decode cX2_product 59 = .ok (.lreturn, 1) := by decide +kernel
theorem dX2_areAlike_0 : decode cX2_areAlike 0 = .ok (.iconst 0, 1) := by decide +kernel
theorem dX2_areAlike_1 : decode cX2_areAlike 1 = .ok (.istore 4, 2) := by decide +kernel
theorem dX2_areAlike_3 : decode cX2_areAlike 3 = .ok (.iload 4, 2) := by decide +kernel
theorem dX2_areAlike_5 : decode cX2_areAlike 5 = .ok (.iconst 4, 1) := by decide +kernel
theorem dX2_areAlike_6 : decode cX2_areAlike 6 = .ok (.if_icmp .ge 37, 3) := by decide +kernel
theorem dX2_areAlike_9 : decode cX2_areAlike 9 = .ok (.iload_n 3, 1) := by decide +kernel
theorem dX2_areAlike_10 : decode cX2_areAlike 10 = .ok (.iload 4, 2) := by decide +kernel
theorem dX2_areAlike_12 : decode cX2_areAlike 12 = .ok (.invokestatic 55, 3) := by decide +kernel
theorem dX2_areAlike_15 : decode cX2_areAlike 15 = .ok (.ifCond .eq 22, 3) := by decide +kernel
theorem dX2_areAlike_18 : decode cX2_areAlike 18 = .ok (.aload_n 0, 1) := by decide +kernel
theorem dX2_areAlike_19 : decode cX2_areAlike 19 = .ok (.iload_n 1, 1) := by decide +kernel
theorem dX2_areAlike_20 : decode cX2_areAlike 20 = .ok (.iload 4, 2) := by decide +kernel
theorem dX2_areAlike_22 : decode cX2_areAlike 22 = .ok (.invokevirtual 48, 3) := by decide +kernel
theorem dX2_areAlike_25 : decode cX2_areAlike 25 = .ok (.aload_n 0, 1) := by decide +kernel
theorem dX2_areAlike_26 : decode cX2_areAlike 26 = .ok (.iload_n 2, 1) := by decide +kernel
theorem dX2_areAlike_27 : decode cX2_areAlike 27 = .ok (.iload 4, 2) := by decide +kernel
theorem dX2_areAlike_29 : decode cX2_areAlike 29 = .ok (.invokevirtual 48, 3) := by decide +kernel
theorem dX2_areAlike_32 : decode cX2_areAlike 32 = .ok (.if_icmp .eq 5, 3) := by decide +kernel
theorem dX2_areAlike_35 : decode cX2_areAlike 35 = .ok (.iconst 0, 1) := by decide +kernel
theorem dX2_areAlike_36 : decode cX2_areAlike 36 = .ok (.ireturn, 1) := by decide +kernel
theorem dX2_areAlike_37 : decode cX2_areAlike 37 = .ok (.iinc 4 1, 3) := by decide +kernel
theorem dX2_areAlike_40 : decode cX2_areAlike 40 = .ok (.goto (-37), 3) := by decide +kernel
theorem dX2_areAlike_43 : decode cX2_areAlike 43 = .ok (.iconst 1, 1) := by decide +kernel
theorem dX2_areAlike_44 : decode cX2_areAlike 44 = .ok (.ireturn, 1) := by decide +kernel
theorem dX2_isPlace_0 : decode cX2_isPlace 0 = .ok (.iload_n 0, 1) := by decide +kernel
theorem dX2_isPlace_1 : decode cX2_isPlace 1 = .ok (.ifCond .lt 21, 3) := by decide +kernel
theorem dX2_isPlace_4 : decode cX2_isPlace 4 = .ok (.iload_n 0, 1) := by decide +kernel
theorem dX2_isPlace_5 : decode cX2_isPlace 5 = .ok (.iconst 5, 1) := by decide +kernel
theorem dX2_isPlace_6 : decode cX2_isPlace 6 = .ok (.if_icmp .ge 16, 3) := by decide +kernel
theorem dX2_isPlace_9 : decode cX2_isPlace 9 = .ok (.iload_n 1, 1) := by decide +kernel
theorem dX2_isPlace_10 : decode cX2_isPlace 10 = .ok (.ifCond .lt 12, 3) := by decide +kernel
theorem dX2_isPlace_13 : decode cX2_isPlace 13 = .ok (.iload_n 1, 1) := by decide +kernel
theorem dX2_isPlace_14 : decode cX2_isPlace 14 = .ok (.iconst 4, 1) := by decide +kernel
theorem dX2_isPlace_15 : decode cX2_isPlace 15 = .ok (.if_icmp .ge 7, 3) := by decide +kernel
theorem dX2_isPlace_18 : decode cX2_isPlace 18 = .ok (.iconst 1, 1) := by decide +kernel
theorem dX2_isPlace_19 : decode cX2_isPlace 19 = .ok (.goto 4, 3) := by decide +kernel
theorem dX2_isPlace_22 : decode cX2_isPlace 22 = .ok (.iconst 0, 1) := by decide +kernel
theorem dX2_isPlace_23 : decode cX2_isPlace 23 = .ok (.ireturn, 1) := by decide +kernel
theorem dX3_init_0 : decode cX3_init 0 = .ok (.aload_n 0, 1) := by decide +kernel
theorem dX3_init_1 : decode cX3_init 1 = .ok (.invokespecial 1, 3) := by decide +kernel
theorem dX3_init_4 : decode cX3_init 4 = .ok (.aload_n 0, 1) := by decide +kernel
theorem dX3_init_5 : decode cX3_init 5 = .ok (.aload_n 1, 1) := by decide +kernel
theorem dX3_init_6 : decode cX3_init 6 = .ok (.putfield 7, 3) := by decide +kernel
theorem dX3_init_9 : decode cX3_init 9 = .ok (.aload_n 0, 1) := by decide +kernel
theorem dX3_init_10 : decode cX3_init 10 = .ok (.new 13, 3) := by decide +kernel
theorem dX3_init_13 : decode cX3_init 13 = .ok (.dup, 1) := by decide +kernel
theorem dX3_init_14 : decode cX3_init 14 = .ok (.aload_n 1, 1) := by decide +kernel
theorem dX3_init_15 : decode cX3_init 15 = .ok (.invokespecial 15, 3) := by decide +kernel
theorem dX3_init_18 : decode cX3_init 18 = .ok (.putfield 18, 3) := by decide +kernel
theorem dX3_init_21 : decode cX3_init 21 = .ok (.aload_n 0, 1) := by decide +kernel
theorem dX3_init_22 : decode cX3_init 22 = .ok (.new 22, 3) := by decide +kernel
theorem dX3_init_25 : decode cX3_init 25 = .ok (.dup, 1) := by decide +kernel
theorem dX3_init_26 : decode cX3_init 26 = .ok (.invokespecial 24, 3) := by decide +kernel
theorem dX3_init_29 : decode cX3_init 29 = .ok (.putfield 25, 3) := by decide +kernel
theorem dX3_init_32 : decode cX3_init 32 = .ok (.return_, 1) := by decide +kernel
theorem dX3_find_0 : decode cX3_find 0 = .ok (.aload_n 0, 1) := by decide +kernel
theorem dX3_find_1 : decode cX3_find 1 = .ok (.iconst 0, 1) := by decide +kernel
theorem dX3_find_2 : decode cX3_find 2 = .ok (.putfield 29, 3) := by decide +kernel
theorem dX3_find_5 : decode cX3_find 5 = .ok (.aload_n 0, 1) := by decide +kernel
theorem dX3_find_6 : decode cX3_find 6 = .ok (.iconst 0, 1) := by decide +kernel
theorem dX3_find_7 : decode cX3_find 7 = .ok (.putfield 33, 3) := by decide +kernel
theorem dX3_find_10 : decode cX3_find 10 = .ok (.aload_n 0, 1) := by decide +kernel
theorem dX3_find_11 : decode cX3_find 11 = .ok (.getfield 18, 3) := by decide +kernel
theorem dX3_find_14 : decode cX3_find 14 = .ok (.iload_n 1, 1) := by decide +kernel
theorem dX3_find_15 : decode cX3_find 15 = .ok (.invokevirtual 36, 3) := by decide +kernel
theorem dX3_find_18 : decode cX3_find 18 = .ok (.aload_n 0, 1) := by decide +kernel
theorem dX3_find_19 : decode cX3_find 19 = .ok (.getfield 7, 3) := by decide +kernel
theorem dX3_find_22 : decode cX3_find 22 = .ok (.invokevirtual 40, 3) := by decide +kernel
theorem dX3_find_25 : decode cX3_find 25 = .ok (.istore_n 2, 1) := by decide +kernel
theorem dX3_find_26 : decode cX3_find 26 = .ok (.iconst 1, 1) := by decide +kernel
theorem dX3_find_27 : decode cX3_find 27 = .ok (.istore_n 3, 1) := by decide +kernel
theorem dX3_find_28 : decode cX3_find 28 = .ok (.iload_n 3, 1) := by decide +kernel
theorem dX3_find_29 : decode cX3_find 29 = .ok (.iload_n 2, 1) := by decide +kernel
theorem dX3_find_30 : decode cX3_find 30 = .ok (.if_icmp .gt 42, 3) := by decide +kernel
theorem dX3_find_33 : decode cX3_find 33 = .ok (.aload_n 0, 1) := by decide +kernel
theorem dX3_find_34 : decode cX3_find 34 = .ok (.getfield 18, 3) := by decide +kernel
theorem dX3_find_37 : decode cX3_find 37 = .ok (.iload_n 3, 1) := by decide +kernel
theorem dX3_find_38 : decode cX3_find 38 = .ok (.invokevirtual 46, 3) := by decide +kernel
theorem dX3_find_41 : decode cX3_find 41 = .ok (.aload_n 0, 1) := by decide +kernel
theorem dX3_find_42 : decode cX3_find 42 = .ok (.getfield 18, 3) := by decide +kernel
theorem dX3_find_45 : decode cX3_find 45 = .ok (.invokevirtual 49, 3) := by decide +kernel
theorem dX3_find_48 : decode cX3_find 48 = .ok (.ifCond .eq 18, 3) := by decide +kernel
theorem dX3_find_51 : decode cX3_find 51 = .ok (.aload_n 0, 1) := by decide +kernel
theorem dX3_find_52 : decode cX3_find 52 = .ok (.dup, 1) := by decide +kernel
theorem dX3_find_53 : decode cX3_find 53 = .ok (.getfield 33, 3) := by decide +kernel
theorem dX3_find_56 : decode cX3_find 56 = .ok (.iconst 1, 1) := by decide +kernel
theorem dX3_find_57 : decode cX3_find 57 = .ok (.iadd, 1) := by decide +kernel
theorem dX3_find_58 : decode cX3_find 58 = .ok (.putfield 33, 3) := by decide +kernel
theorem dX3_find_61 : decode cX3_find 61 = .ok (.aload_n 0, 1) := by decide +kernel
theorem dX3_find_62 : decode cX3_find 62 = .ok (.iload_n 3, 1) := by decide +kernel
theorem dX3_find_63 : decode cX3_find 63 = .ok (.invokevirtual 53, 3) := by decide +kernel
theorem dX3_find_66 : decode cX3_find 66 = .ok (.iinc 3 1, 3) := by decide +kernel
theorem dX3_find_69 : decode cX3_find 69 = .ok (.goto (-41), 3) := by decide +kernel
theorem dX3_find_72 : decode cX3_find 72 = .ok (.aload_n 0, 1) := by decide +kernel
theorem dX3_find_73 : decode cX3_find 73 = .ok (.getfield 18, 3) := by decide +kernel
theorem dX3_find_76 : decode cX3_find 76 = .ok (.aload_n 0, 1) := by decide +kernel
theorem dX3_find_77 : decode cX3_find 77 = .ok (.getfield 29, 3) := by decide +kernel
theorem dX3_find_80 : decode cX3_find 80 = .ok (.invokevirtual 46, 3) := by decide +kernel
theorem dX3_find_83 : decode cX3_find 83 = .ok (.return_, 1) := by decide +kernel
theorem dX3_weighUp_0 : decode cX3_weighUp 0 = .ok (.aload_n 0, 1) := by decide +kernel
theorem dX3_weighUp_1 : decode cX3_weighUp 1 = .ok (.getfield 29, 3) := by decide +kernel
theorem dX3_weighUp_4 : decode cX3_weighUp 4 = .ok (.ifCond .ne 7, 3) := by decide +kernel
theorem dX3_weighUp_7 : decode cX3_weighUp 7 = .ok (.iconst (-1), 1) := by decide +kernel
theorem dX3_weighUp_8 : decode cX3_weighUp 8 = .ok (.goto 17, 3) := by decide +kernel
theorem dX3_weighUp_11 : decode cX3_weighUp 11 = .ok (.aload_n 0, 1) := by decide +kernel
theorem dX3_weighUp_12 : decode cX3_weighUp 12 = .ok (.getfield 18, 3) := by decide +kernel
theorem dX3_weighUp_15 : decode cX3_weighUp 15 = .ok (.getfield 56, 3) := by decide +kernel
theorem dX3_weighUp_18 : decode cX3_weighUp 18 = .ok (.aload_n 0, 1) := by decide +kernel
theorem dX3_weighUp_19 : decode cX3_weighUp 19 = .ok (.getfield 25, 3) := by decide +kernel
theorem dX3_weighUp_22 : decode cX3_weighUp 22 = .ok (.invokevirtual 57, 3) := by decide +kernel
theorem dX3_weighUp_25 : decode cX3_weighUp 25 = .ok (.istore_n 2, 1) := by decide +kernel
theorem dX3_weighUp_26 : decode cX3_weighUp 26 = .ok (.iload_n 1, 1) := by decide +kernel
theorem dX3_weighUp_27 : decode cX3_weighUp 27 = .ok (.invokestatic 61, 3) := by decide +kernel
theorem dX3_weighUp_30 : decode cX3_weighUp 30 = .ok (.aload_n 0, 1) := by decide +kernel
theorem dX3_weighUp_31 : decode cX3_weighUp 31 = .ok (.getfield 29, 3) := by decide +kernel
theorem dX3_weighUp_34 : decode cX3_weighUp 34 = .ok (.invokestatic 61, 3) := by decide +kernel
theorem dX3_weighUp_37 : decode cX3_weighUp 37 = .ok (.if_icmp .ge 7, 3) := by decide +kernel
theorem dX3_weighUp_40 : decode cX3_weighUp 40 = .ok (.iconst 1, 1) := by decide +kernel
theorem dX3_weighUp_41 : decode cX3_weighUp 41 = .ok (.goto 4, 3) := by decide +kernel
theorem dX3_weighUp_44 : decode cX3_weighUp 44 = .ok (.iconst 0, 1) := by decide +kernel
theorem dX3_weighUp_45 : decode cX3_weighUp 45 = .ok (.istore_n 3, 1) := by decide +kernel
theorem dX3_weighUp_46 : decode cX3_weighUp 46 = .ok (.iload_n 2, 1) := by decide +kernel
theorem dX3_weighUp_47 : decode cX3_weighUp 47 = .ok (.ifCond .lt 11, 3) := by decide +kernel
theorem dX3_weighUp_50 : decode cX3_weighUp 50 = .ok (.iload_n 2, 1) := by decide +kernel
theorem dX3_weighUp_51 : decode cX3_weighUp 51 = .ok (.ifCond .ne 26, 3) := by decide +kernel
theorem dX3_weighUp_54 : decode cX3_weighUp 54 = .ok (.iload_n 3, 1) := by decide +kernel
theorem dX3_weighUp_55 : decode cX3_weighUp 55 = .ok (.ifCond .eq 22, 3) := by decide +kernel
theorem dX3_weighUp_58 : decode cX3_weighUp 58 = .ok (.aload_n 0, 1) := by decide +kernel
theorem dX3_weighUp_59 : decode cX3_weighUp 59 = .ok (.iload_n 1, 1) := by decide +kernel
theorem dX3_weighUp_60 : decode cX3_weighUp 60 = .ok (.putfield 29, 3) := by decide +kernel
theorem dX3_weighUp_63 : decode cX3_weighUp 63 = .ok (.aload_n 0, 1) := by decide +kernel
theorem dX3_weighUp_64 : decode cX3_weighUp 64 = .ok (.getfield 25, 3) := by decide +kernel
theorem dX3_weighUp_67 : decode cX3_weighUp 67 = .ok (.aload_n 0, 1) := by decide +kernel
theorem dX3_weighUp_68 : decode cX3_weighUp 68 = .ok (.getfield 18, 3) := by decide +kernel
theorem dX3_weighUp_71 : decode cX3_weighUp 71 = .ok (.getfield 56, 3) := by decide +kernel
theorem dX3_weighUp_74 : decode cX3_weighUp 74 = .ok (.invokevirtual 67, 3) := by decide +kernel
theorem dX3_weighUp_77 : decode cX3_weighUp 77 = .ok (.return_, 1) := by decide +kernel
theorem dX4_init_0 : decode cX4_init 0 = .ok (.aload_n 0, 1) := by decide +kernel
theorem dX4_init_1 : decode cX4_init 1 = .ok (.invokespecial 3, 3) := by decide +kernel
theorem dX4_init_4 : decode cX4_init 4 = .ok (.aload_n 0, 1) := by decide +kernel
theorem dX4_init_5 : decode cX4_init 5 = .ok (.bipush 47, 2) := by decide +kernel
theorem dX4_init_7 : decode cX4_init 7 = .ok (.newarray .int, 2) := by decide +kernel
theorem dX4_init_9 : decode cX4_init 9 = .ok (.putfield 9, 3) := by decide +kernel
theorem dX4_init_12 : decode cX4_init 12 = .ok (.return_, 1) := by decide +kernel
theorem dX4_isFull_0 : decode cX4_isFull 0 = .ok (.aload_n 0, 1) := by decide +kernel
theorem dX4_isFull_1 : decode cX4_isFull 1 = .ok (.getfield 15, 3) := by decide +kernel
theorem dX4_isFull_4 : decode cX4_isFull 4 = .ok (.bipush 47, 2) := by decide +kernel
theorem dX4_isFull_6 : decode cX4_isFull 6 = .ok (.if_icmp .lt 7, 3) := by decide +kernel
theorem dX4_isFull_9 : decode cX4_isFull 9 = .ok (.iconst 1, 1) := by decide +kernel
theorem dX4_isFull_10 : decode cX4_isFull 10 = .ok (.goto 4, 3) := by decide +kernel
theorem dX4_isFull_13 : decode cX4_isFull 13 = .ok (.iconst 0, 1) := by decide +kernel
theorem dX4_isFull_14 : decode cX4_isFull 14 = .ok (.ireturn, 1) := by decide +kernel
theorem dX4_append_0 : decode cX4_append 0 = .ok (.aload_n 0, 1) := by decide +kernel
theorem dX4_append_1 : decode cX4_append 1 = .ok (.getfield 15, 3) := by decide +kernel
theorem dX4_append_4 : decode cX4_append 4 = .ok (.ifCond .lt 32, 3) := by decide +kernel
theorem dX4_append_7 : decode cX4_append 7 = .ok (.aload_n 0, 1) := by decide +kernel
theorem dX4_append_8 : decode cX4_append 8 = .ok (.getfield 15, 3) := by decide +kernel
theorem dX4_append_11 : decode cX4_append 11 = .ok (.bipush 47, 2) := by decide +kernel
theorem dX4_append_13 : decode cX4_append 13 = .ok (.if_icmp .ge 23, 3) := by decide +kernel
theorem dX4_append_16 : decode cX4_append 16 = .ok (.aload_n 0, 1) := by decide +kernel
theorem dX4_append_17 : decode cX4_append 17 = .ok (.getfield 9, 3) := by decide +kernel
theorem dX4_append_20 : decode cX4_append 20 = .ok (.aload_n 0, 1) := by decide +kernel
theorem dX4_append_21 : decode cX4_append 21 = .ok (.getfield 15, 3) := by decide +kernel
theorem dX4_append_24 : decode cX4_append 24 = .ok (.iload_n 1, 1) := by decide +kernel
theorem dX4_append_25 : decode cX4_append 25 = .ok (.iastore, 1) := by decide +kernel
theorem dX4_append_26 : decode cX4_append 26 = .ok (.aload_n 0, 1) := by decide +kernel
theorem dX4_append_27 : decode cX4_append 27 = .ok (.dup, 1) := by decide +kernel
theorem dX4_append_28 : decode cX4_append 28 = .ok (.getfield 15, 3) := by decide +kernel
theorem dX4_append_31 : decode cX4_append 31 = .ok (.iconst 1, 1) := by decide +kernel
theorem dX4_append_32 : decode cX4_append 32 = .ok (.iadd, 1) := by decide +kernel
theorem dX4_append_33 : decode cX4_append 33 = .ok (.putfield 15, 3) := by decide +kernel
theorem dX4_append_36 : decode cX4_append 36 = .ok (.return_, 1) := by decide +kernel
theorem dX4_empty_0 : decode cX4_empty 0 = .ok (.aload_n 0, 1) := by decide +kernel
theorem dX4_empty_1 : decode cX4_empty 1 = .ok (.iconst 0, 1) := by decide +kernel
theorem dX4_empty_2 : decode cX4_empty 2 = .ok (.putfield 15, 3) := by decide +kernel
theorem dX4_empty_5 : decode cX4_empty 5 = .ok (.return_, 1) := by decide +kernel
theorem dX4_codeAt_0 : decode cX4_codeAt 0 = .ok (.iload_n 1, 1) := by decide +kernel
theorem dX4_codeAt_1 : decode cX4_codeAt 1 = .ok (.ifCond .lt 26, 3) := by decide +kernel
theorem dX4_codeAt_4 : decode cX4_codeAt 4 = .ok (.iload_n 1, 1) := by decide +kernel
theorem dX4_codeAt_5 : decode cX4_codeAt 5 = .ok (.aload_n 0, 1) := by decide +kernel
theorem dX4_codeAt_6 : decode cX4_codeAt 6 = .ok (.getfield 15, 3) := by decide +kernel
theorem dX4_codeAt_9 : decode cX4_codeAt 9 = .ok (.if_icmp .ge 18, 3) := by decide +kernel
theorem dX4_codeAt_12 : decode cX4_codeAt 12 = .ok (.iload_n 1, 1) := by decide +kernel
theorem dX4_codeAt_13 : decode cX4_codeAt 13 = .ok (.bipush 47, 2) := by decide +kernel
theorem dX4_codeAt_15 : decode cX4_codeAt 15 = .ok (.if_icmp .ge 12, 3) := by decide +kernel
theorem dX4_codeAt_18 : decode cX4_codeAt 18 = .ok (.aload_n 0, 1) := by decide +kernel
theorem dX4_codeAt_19 : decode cX4_codeAt 19 = .ok (.getfield 9, 3) := by decide +kernel
theorem dX4_codeAt_22 : decode cX4_codeAt 22 = .ok (.iload_n 1, 1) := by decide +kernel
theorem dX4_codeAt_23 : decode cX4_codeAt 23 = .ok (.iaload, 1) := by decide +kernel
theorem dX4_codeAt_24 : decode cX4_codeAt 24 = .ok (.goto 4, 3) := by decide +kernel
theorem dX4_codeAt_27 : decode cX4_codeAt 27 = .ok (.iconst 0, 1) := by decide +kernel
theorem dX4_codeAt_28 : decode cX4_codeAt 28 = .ok (.ireturn, 1) := by decide +kernel
theorem dX5_init_0 : decode cX5_init 0 = .ok (.aload_n 0, 1) := by decide +kernel
theorem dX5_init_1 : decode cX5_init 1 = .ok (.invokespecial 3, 3) := by decide +kernel
theorem dX5_init_4 : decode cX5_init 4 = .ok (.aload_n 0, 1) := by decide +kernel
theorem dX5_init_5 : decode cX5_init 5 = .ok (.bipush 16, 2) := by decide +kernel
theorem dX5_init_7 : decode cX5_init 7 = .ok (.newarray .int, 2) := by decide +kernel
theorem dX5_init_9 : decode cX5_init 9 = .ok (.putfield 9, 3) := by decide +kernel
theorem dX5_init_12 : decode cX5_init 12 = .ok (.return_, 1) := by decide +kernel
theorem dX5_read_0 : decode cX5_read 0 = .ok (.aload_n 0, 1) := by decide +kernel
theorem dX5_read_1 : decode cX5_read 1 = .ok (.invokevirtual 15, 3) := by decide +kernel
theorem dX5_read_4 : decode cX5_read 4 = .ok (.iconst 0, 1) := by decide +kernel
theorem dX5_read_5 : decode cX5_read 5 = .ok (.istore_n 2, 1) := by decide +kernel
theorem dX5_read_6 : decode cX5_read 6 = .ok (.iload_n 2, 1) := by decide +kernel
theorem dX5_read_7 : decode cX5_read 7 = .ok (.aload_n 1, 1) := by decide +kernel
theorem dX5_read_8 : decode cX5_read 8 = .ok (.getfield 18, 3) := by decide +kernel
theorem dX5_read_11 : decode cX5_read 11 = .ok (.if_icmp .ge 23, 3) := by decide +kernel
theorem dX5_read_14 : decode cX5_read 14 = .ok (.aload_n 0, 1) := by decide +kernel
theorem dX5_read_15 : decode cX5_read 15 = .ok (.aload_n 1, 1) := by decide +kernel
theorem dX5_read_16 : decode cX5_read 16 = .ok (.iload_n 2, 1) := by decide +kernel
theorem dX5_read_17 : decode cX5_read 17 = .ok (.invokevirtual 24, 3) := by decide +kernel
theorem dX5_read_20 : decode cX5_read 20 = .ok (.invokevirtual 28, 3) := by decide +kernel
theorem dX5_read_23 : decode cX5_read 23 = .ok (.ifCond .ne 5, 3) := by decide +kernel
theorem dX5_read_26 : decode cX5_read 26 = .ok (.iload_n 2, 1) := by decide +kernel
theorem dX5_read_27 : decode cX5_read 27 = .ok (.ireturn, 1) := by decide +kernel
theorem dX5_read_28 : decode cX5_read 28 = .ok (.iinc 2 1, 3) := by decide +kernel
theorem dX5_read_31 : decode cX5_read 31 = .ok (.goto (-25), 3) := by decide +kernel
theorem dX5_read_34 : decode cX5_read 34 = .ok (.aload_n 1, 1) := by decide +kernel
theorem dX5_read_35 : decode cX5_read 35 = .ok (.getfield 18, 3) := by decide +kernel
theorem dX5_read_38 : decode cX5_read 38 = .ok (.ireturn, 1) := by decide +kernel
theorem dX5_finish_0 : decode cX5_finish 0 = .ok (.aload_n 0, 1) := by decide +kernel
theorem dX5_finish_1 : decode cX5_finish 1 = .ok (.getfield 32, 3) := by decide +kernel
theorem dX5_finish_4 : decode cX5_finish 4 = .ok (.iconst (-1), 1) := by decide +kernel
theorem dX5_finish_5 : decode cX5_finish 5 = .ok (.if_icmp .eq 10, 3) := by decide +kernel
theorem dX5_finish_8 : decode cX5_finish 8 = .ok (.aload_n 0, 1) := by decide +kernel
theorem dX5_finish_9 : decode cX5_finish 9 = .ok (.invokevirtual 35, 3) := by decide +kernel
theorem dX5_finish_12 : decode cX5_finish 12 = .ok (.ifCond .ne 5, 3) := by decide +kernel
theorem dX5_finish_15 : decode cX5_finish 15 = .ok (.iconst 0, 1) := by decide +kernel
theorem dX5_finish_16 : decode cX5_finish 16 = .ok (.ireturn, 1) := by decide +kernel
theorem dX5_finish_17 : decode cX5_finish 17 = .ok (.aload_n 0, 1) := by decide +kernel
theorem dX5_finish_18 : decode cX5_finish 18 = .ok (.invokevirtual 39, 3) := by decide +kernel
theorem dX5_finish_21 : decode cX5_finish 21 = .ok (.iconst 1, 1) := by decide +kernel
theorem dX5_finish_22 : decode cX5_finish 22 = .ok (.ireturn, 1) := by decide +kernel
theorem dX5_sourcesRead_0 : decode cX5_sourcesRead 0 = .ok (.aload_n 0, 1) := by decide +kernel
theorem dX5_sourcesRead_1 : decode cX5_sourcesRead 1 = .ok (.getfield 42, 3) := by decide +kernel
theorem dX5_sourcesRead_4 : decode cX5_sourcesRead 4 = .ok (.iconst 1, 1) := by decide +kernel
theorem dX5_sourcesRead_5 : decode cX5_sourcesRead 5 = .ok (.iadd, 1) := by decide +kernel
theorem dX5_sourcesRead_6 : decode cX5_sourcesRead 6 = .ok (.ireturn, 1) := by decide +kernel
theorem dX5_tracersRead_0 : decode cX5_tracersRead 0 = .ok (.aload_n 0, 1) := by decide +kernel
theorem dX5_tracersRead_1 : decode cX5_tracersRead 1 = .ok (.getfield 45, 3) := by decide +kernel
theorem dX5_tracersRead_4 : decode cX5_tracersRead 4 = .ok (.iconst 1, 1) := by decide +kernel
theorem dX5_tracersRead_5 : decode cX5_tracersRead 5 = .ok (.iadd, 1) := by decide +kernel
theorem dX5_tracersRead_6 : decode cX5_tracersRead 6 = .ok (.ireturn, 1) := by decide +kernel
theorem dX5_draftOf_0 : decode cX5_draftOf 0 = .ok (.iload_n 1, 1) := by decide +kernel
theorem dX5_draftOf_1 : decode cX5_draftOf 1 = .ok (.iconst 4, 1) := by decide +kernel
theorem dX5_draftOf_2 : decode cX5_draftOf 2 = .ok (.imul, 1) := by decide +kernel
theorem dX5_draftOf_3 : decode cX5_draftOf 3 = .ok (.iload_n 2, 1) := by decide +kernel
theorem dX5_draftOf_4 : decode cX5_draftOf 4 = .ok (.iadd, 1) := by decide +kernel
theorem dX5_draftOf_5 : decode cX5_draftOf 5 = .ok (.istore_n 3, 1) := by decide +kernel
theorem dX5_draftOf_6 : decode cX5_draftOf 6 = .ok (.iload_n 3, 1) := by decide +kernel
theorem dX5_draftOf_7 : decode cX5_draftOf 7 = .ok (.ifCond .lt 18, 3) := by decide +kernel
theorem dX5_draftOf_10 : decode cX5_draftOf 10 = .ok (.iload_n 3, 1) := by decide +kernel
theorem dX5_draftOf_11 : decode cX5_draftOf 11 = .ok (.bipush 16, 2) := by decide +kernel
theorem dX5_draftOf_13 : decode cX5_draftOf 13 = .ok (.if_icmp .ge 12, 3) := by decide +kernel
theorem dX5_draftOf_16 : decode cX5_draftOf 16 = .ok (.aload_n 0, 1) := by decide +kernel
theorem dX5_draftOf_17 : decode cX5_draftOf 17 = .ok (.getfield 9, 3) := by decide +kernel
theorem dX5_draftOf_20 : decode cX5_draftOf 20 = .ok (.iload_n 3, 1) := by decide +kernel
theorem dX5_draftOf_21 : decode cX5_draftOf 21 = .ok (.iaload, 1) := by decide +kernel
theorem dX5_draftOf_22 : decode cX5_draftOf 22 = .ok (.goto 4, 3) := by decide +kernel
theorem dX5_draftOf_25 : decode cX5_draftOf 25 = .ok (.iconst 0, 1) := by decide +kernel
theorem dX5_draftOf_26 : decode cX5_draftOf 26 = .ok (.ireturn, 1) := by decide +kernel
theorem dX5_start_0 : decode cX5_start 0 = .ok (.iconst 0, 1) := by decide +kernel
theorem dX5_start_1 : decode cX5_start 1 = .ok (.istore_n 1, 1) := by decide +kernel
theorem dX5_start_2 : decode cX5_start 2 = .ok (.iload_n 1, 1) := by decide +kernel
theorem dX5_start_3 : decode cX5_start 3 = .ok (.bipush 16, 2) := by decide +kernel
theorem dX5_start_5 : decode cX5_start 5 = .ok (.if_icmp .ge 16, 3) := by decide +kernel
theorem dX5_start_8 : decode cX5_start 8 = .ok (.aload_n 0, 1) := by decide +kernel
theorem dX5_start_9 : decode cX5_start 9 = .ok (.getfield 9, 3) := by decide +kernel
theorem dX5_start_12 : decode cX5_start 12 = .ok (.iload_n 1, 1) := by decide +kernel
theorem dX5_start_13 : decode cX5_start 13 = .ok (.iconst 0, 1) := by decide +kernel
theorem dX5_start_14 : decode cX5_start 14 = .ok (.iastore, 1) := by decide +kernel
theorem dX5_start_15 : decode cX5_start 15 = .ok (.iinc 1 1, 3) := by decide +kernel
theorem dX5_start_18 : decode cX5_start 18 = .ok (.goto (-16), 3) := by decide +kernel
theorem dX5_start_21 : decode cX5_start 21 = .ok (.aload_n 0, 1) := by decide +kernel
theorem dX5_start_22 : decode cX5_start 22 = .ok (.iconst 0, 1) := by decide +kernel
theorem dX5_start_23 : decode cX5_start 23 = .ok (.putfield 42, 3) := by decide +kernel
theorem dX5_start_26 : decode cX5_start 26 = .ok (.aload_n 0, 1) := by decide +kernel
theorem dX5_start_27 : decode cX5_start 27 = .ok (.iconst 0, 1) := by decide +kernel
theorem dX5_start_28 : decode cX5_start 28 = .ok (.putfield 45, 3) := by decide +kernel
theorem dX5_start_31 : decode cX5_start 31 = .ok (.aload_n 0, 1) := by decide +kernel
theorem dX5_start_32 : decode cX5_start 32 = .ok (.iconst 0, 1) := by decide +kernel
theorem dX5_start_33 : decode cX5_start 33 = .ok (.putfield 48, 3) := by decide +kernel
theorem dX5_start_36 : decode cX5_start 36 = .ok (.aload_n 0, 1) := by decide +kernel
theorem dX5_start_37 : decode cX5_start 37 = .ok (.iconst (-1), 1) := by decide +kernel
theorem dX5_start_38 : decode cX5_start 38 = .ok (.putfield 32, 3) := by decide +kernel
theorem dX5_start_41 : decode cX5_start 41 = .ok (.return_, 1) := by decide +kernel
theorem dX5_takes_0 : decode cX5_takes 0 = .ok (.iload_n 1, 1) := by decide +kernel
theorem dX5_takes_1 : decode cX5_takes 1 = .ok (.lookupswitch 37 #[(44, 27), (59, 32)], 27) := by decide +kernel
theorem dX5_takes_28 : decode cX5_takes 28 = .ok (.aload_n 0, 1) := by decide +kernel
theorem dX5_takes_29 : decode cX5_takes 29 = .ok (.invokevirtual 51, 3) := by decide +kernel
theorem dX5_takes_32 : decode cX5_takes 32 = .ok (.ireturn, 1) := by decide +kernel
theorem dX5_takes_33 : decode cX5_takes 33 = .ok (.aload_n 0, 1) := by decide +kernel
theorem dX5_takes_34 : decode cX5_takes 34 = .ok (.invokevirtual 54, 3) := by decide +kernel
theorem dX5_takes_37 : decode cX5_takes 37 = .ok (.ireturn, 1) := by decide +kernel
theorem dX5_takes_38 : decode cX5_takes 38 = .ok (.iload_n 1, 1) := by decide +kernel
theorem dX5_takes_39 : decode cX5_takes 39 = .ok (.bipush 48, 2) := by decide +kernel
theorem dX5_takes_41 : decode cX5_takes 41 = .ok (.if_icmp .lt 24, 3) := by decide +kernel
theorem dX5_takes_44 : decode cX5_takes 44 = .ok (.iload_n 1, 1) := by decide +kernel
theorem dX5_takes_45 : decode cX5_takes 45 = .ok (.bipush 57, 2) := by decide +kernel
theorem dX5_takes_47 : decode cX5_takes 47 = .ok (.if_icmp .gt 18, 3) := by decide +kernel
theorem dX5_takes_50 : decode cX5_takes 50 = .ok (.aload_n 0, 1) := by decide +kernel
theorem dX5_takes_51 : decode cX5_takes 51 = .ok (.iload_n 1, 1) := by decide +kernel
theorem dX5_takes_52 : decode cX5_takes 52 = .ok (.bipush 48, 2) := by decide +kernel
theorem dX5_takes_54 : decode cX5_takes 54 = .ok (.isub, 1) := by decide +kernel
theorem dX5_takes_55 : decode cX5_takes 55 = .ok (.invokevirtual 57, 3) := by decide +kernel
theorem dX5_takes_58 : decode cX5_takes 58 = .ok (.ifCond .eq 7, 3) := by decide +kernel
theorem dX5_takes_61 : decode cX5_takes 61 = .ok (.iconst 1, 1) := by decide +kernel
theorem dX5_takes_62 : decode cX5_takes 62 = .ok (.goto 4, 3) := by decide +kernel
theorem dX5_takes_65 : decode cX5_takes 65 = .ok (.iconst 0, 1) := by decide +kernel
theorem dX5_takes_66 : decode cX5_takes 66 = .ok (.ireturn, 1) := by decide +kernel
theorem dX5_takesFigure_0 : decode cX5_takesFigure 0 = .ok (.aload_n 0, 1) := by decide +kernel
theorem dX5_takesFigure_1 : decode cX5_takesFigure 1 = .ok (.getfield 32, 3) := by decide +kernel
theorem dX5_takesFigure_4 : decode cX5_takesFigure 4 = .ok (.iconst (-1), 1) := by decide +kernel
theorem dX5_takesFigure_5 : decode cX5_takesFigure 5 = .ok (.if_icmp .ne 10, 3) := by decide +kernel
theorem dX5_takesFigure_8 : decode cX5_takesFigure 8 = .ok (.aload_n 0, 1) := by decide +kernel
theorem dX5_takesFigure_9 : decode cX5_takesFigure 9 = .ok (.iload_n 1, 1) := by decide +kernel
theorem dX5_takesFigure_10 : decode cX5_takesFigure 10 = .ok (.putfield 32, 3) := by decide +kernel
theorem dX5_takesFigure_13 : decode cX5_takesFigure 13 = .ok (.iconst 1, 1) := by decide +kernel
theorem dX5_takesFigure_14 : decode cX5_takesFigure 14 = .ok (.ireturn, 1) := by decide +kernel
theorem dX5_takesFigure_15 : decode cX5_takesFigure 15 = .ok (.aload_n 0, 1) := by decide +kernel
theorem dX5_takesFigure_16 : decode cX5_takesFigure 16 = .ok (.getfield 32, 3) := by decide +kernel
theorem dX5_takesFigure_19 : decode cX5_takesFigure 19 = .ok (.bipush 10, 2) := by decide +kernel
theorem dX5_takesFigure_21 : decode cX5_takesFigure 21 = .ok (.imul, 1) := by decide +kernel
theorem dX5_takesFigure_22 : decode cX5_takesFigure 22 = .ok (.iload_n 1, 1) := by decide +kernel
theorem dX5_takesFigure_23 : decode cX5_takesFigure 23 = .ok (.iadd, 1) := by decide +kernel
theorem dX5_takesFigure_24 : decode cX5_takesFigure 24 = .ok (.istore_n 2, 1) := by decide +kernel
theorem dX5_takesFigure_25 : decode cX5_takesFigure 25 = .ok (.aload_n 0, 1) := by decide +kernel
theorem dX5_takesFigure_26 : decode cX5_takesFigure 26 = .ok (.getfield 32, 3) := by decide +kernel
theorem dX5_takesFigure_29 : decode cX5_takesFigure 29 = .ok (.ifCond .eq 9, 3) := by decide +kernel
theorem dX5_takesFigure_32 : decode cX5_takesFigure 32 = .ok (.iload_n 2, 1) := by decide +kernel
theorem dX5_takesFigure_33 : decode cX5_takesFigure 33 = .ok (.bipush 20, 2) := by decide +kernel
theorem dX5_takesFigure_35 : decode cX5_takesFigure 35 = .ok (.if_icmp .le 5, 3) := by decide +kernel
theorem dX5_takesFigure_38 : decode cX5_takesFigure 38 = .ok (.iconst 0, 1) := by decide +kernel
theorem dX5_takesFigure_39 : decode cX5_takesFigure 39 = .ok (.ireturn, 1) := by decide +kernel
theorem dX5_takesFigure_40 : decode cX5_takesFigure 40 = .ok (.aload_n 0, 1) := by decide +kernel
theorem dX5_takesFigure_41 : decode cX5_takesFigure 41 = .ok (.iload_n 2, 1) := by decide +kernel
theorem dX5_takesFigure_42 : decode cX5_takesFigure 42 = .ok (.putfield 32, 3) := by decide +kernel
theorem dX5_takesFigure_45 : decode cX5_takesFigure 45 = .ok (.iconst 1, 1) := by decide +kernel
theorem dX5_takesFigure_46 : decode cX5_takesFigure 46 = .ok (.ireturn, 1) := by decide +kernel
theorem dX5_takesComma_0 : decode cX5_takesComma 0 = .ok (.aload_n 0, 1) := by decide +kernel
theorem dX5_takesComma_1 : decode cX5_takesComma 1 = .ok (.getfield 42, 3) := by decide +kernel
theorem dX5_takesComma_4 : decode cX5_takesComma 4 = .ok (.ifCond .ne 7, 3) := by decide +kernel
theorem dX5_takesComma_7 : decode cX5_takesComma 7 = .ok (.iconst 4, 1) := by decide +kernel
theorem dX5_takesComma_8 : decode cX5_takesComma 8 = .ok (.goto 7, 3) := by decide +kernel
theorem dX5_takesComma_11 : decode cX5_takesComma 11 = .ok (.aload_n 0, 1) := by decide +kernel
theorem dX5_takesComma_12 : decode cX5_takesComma 12 = .ok (.getfield 48, 3) := by decide +kernel
theorem dX5_takesComma_15 : decode cX5_takesComma 15 = .ok (.istore_n 1, 1) := by decide +kernel
theorem dX5_takesComma_16 : decode cX5_takesComma 16 = .ok (.aload_n 0, 1) := by decide +kernel
theorem dX5_takesComma_17 : decode cX5_takesComma 17 = .ok (.getfield 32, 3) := by decide +kernel
theorem dX5_takesComma_20 : decode cX5_takesComma 20 = .ok (.iconst (-1), 1) := by decide +kernel
theorem dX5_takesComma_21 : decode cX5_takesComma 21 = .ok (.if_icmp .eq 13, 3) := by decide +kernel
theorem dX5_takesComma_24 : decode cX5_takesComma 24 = .ok (.aload_n 0, 1) := by decide +kernel
theorem dX5_takesComma_25 : decode cX5_takesComma 25 = .ok (.getfield 45, 3) := by decide +kernel
theorem dX5_takesComma_28 : decode cX5_takesComma 28 = .ok (.iconst 1, 1) := by decide +kernel
theorem dX5_takesComma_29 : decode cX5_takesComma 29 = .ok (.iadd, 1) := by decide +kernel
theorem dX5_takesComma_30 : decode cX5_takesComma 30 = .ok (.iload_n 1, 1) := by decide +kernel
theorem dX5_takesComma_31 : decode cX5_takesComma 31 = .ok (.if_icmp .lt 5, 3) := by decide +kernel
theorem dX5_takesComma_34 : decode cX5_takesComma 34 = .ok (.iconst 0, 1) := by decide +kernel
theorem dX5_takesComma_35 : decode cX5_takesComma 35 = .ok (.ireturn, 1) := by decide +kernel
theorem dX5_takesComma_36 : decode cX5_takesComma 36 = .ok (.aload_n 0, 1) := by decide +kernel
theorem dX5_takesComma_37 : decode cX5_takesComma 37 = .ok (.invokevirtual 39, 3) := by decide +kernel
theorem dX5_takesComma_40 : decode cX5_takesComma 40 = .ok (.aload_n 0, 1) := by decide +kernel
theorem dX5_takesComma_41 : decode cX5_takesComma 41 = .ok (.dup, 1) := by decide +kernel
theorem dX5_takesComma_42 : decode cX5_takesComma 42 = .ok (.getfield 45, 3) := by decide +kernel
theorem dX5_takesComma_45 : decode cX5_takesComma 45 = .ok (.iconst 1, 1) := by decide +kernel
theorem dX5_takesComma_46 : decode cX5_takesComma 46 = .ok (.iadd, 1) := by decide +kernel
theorem dX5_takesComma_47 : decode cX5_takesComma 47 = .ok (.putfield 45, 3) := by decide +kernel
theorem dX5_takesComma_50 : decode cX5_takesComma 50 = .ok (.iconst 1, 1) := by decide +kernel
theorem dX5_takesComma_51 : decode cX5_takesComma 51 = .ok (.ireturn, 1) := by decide +kernel
theorem dX5_takesSemicolon_0 : decode cX5_takesSemicolon 0 = .ok (.aload_n 0, 1) := by decide +kernel
theorem dX5_takesSemicolon_1 : decode cX5_takesSemicolon 1 = .ok (.getfield 32, 3) := by decide +kernel
theorem dX5_takesSemicolon_4 : decode cX5_takesSemicolon 4 = .ok (.iconst (-1), 1) := by decide +kernel
theorem dX5_takesSemicolon_5 : decode cX5_takesSemicolon 5 = .ok (.if_icmp .eq 20, 3) := by decide +kernel
theorem dX5_takesSemicolon_8 : decode cX5_takesSemicolon 8 = .ok (.aload_n 0, 1) := by decide +kernel
theorem dX5_takesSemicolon_9 : decode cX5_takesSemicolon 9 = .ok (.invokevirtual 35, 3) := by decide +kernel
theorem dX5_takesSemicolon_12 : decode cX5_takesSemicolon 12 = .ok (.ifCond .eq 13, 3) := by decide +kernel
theorem dX5_takesSemicolon_15 : decode cX5_takesSemicolon 15 = .ok (.aload_n 0, 1) := by decide +kernel
theorem dX5_takesSemicolon_16 : decode cX5_takesSemicolon 16 = .ok (.getfield 42, 3) := by decide +kernel
theorem dX5_takesSemicolon_19 : decode cX5_takesSemicolon 19 = .ok (.iconst 1, 1) := by decide +kernel
theorem dX5_takesSemicolon_20 : decode cX5_takesSemicolon 20 = .ok (.iadd, 1) := by decide +kernel
theorem dX5_takesSemicolon_21 : decode cX5_takesSemicolon 21 = .ok (.iconst 4, 1) := by decide +kernel
theorem dX5_takesSemicolon_22 : decode cX5_takesSemicolon 22 = .ok (.if_icmp .lt 5, 3) := by decide +kernel
theorem dX5_takesSemicolon_25 : decode cX5_takesSemicolon 25 = .ok (.iconst 0, 1) := by decide +kernel
theorem dX5_takesSemicolon_26 : decode cX5_takesSemicolon 26 = .ok (.ireturn, 1) := by decide +kernel
theorem dX5_takesSemicolon_27 : decode cX5_takesSemicolon 27 = .ok (.aload_n 0, 1) := by decide +kernel
theorem dX5_takesSemicolon_28 : decode cX5_takesSemicolon 28 = .ok (.invokevirtual 39, 3) := by decide +kernel
theorem dX5_takesSemicolon_31 : decode cX5_takesSemicolon 31 = .ok (.aload_n 0, 1) := by decide +kernel
theorem dX5_takesSemicolon_32 : decode cX5_takesSemicolon 32 = .ok (.aload_n 0, 1) := by decide +kernel
theorem dX5_takesSemicolon_33 : decode cX5_takesSemicolon 33 = .ok (.getfield 45, 3) := by decide +kernel
theorem dX5_takesSemicolon_36 : decode cX5_takesSemicolon 36 = .ok (.iconst 1, 1) := by decide +kernel
theorem dX5_takesSemicolon_37 : decode cX5_takesSemicolon 37 = .ok (.iadd, 1) := by decide +kernel
theorem dX5_takesSemicolon_38 : decode cX5_takesSemicolon 38 = .ok (.putfield 48, 3) := by decide +kernel
theorem dX5_takesSemicolon_41 : decode cX5_takesSemicolon 41 = .ok (.aload_n 0, 1) := by decide +kernel
theorem dX5_takesSemicolon_42 : decode cX5_takesSemicolon 42 = .ok (.dup, 1) := by decide +kernel
theorem dX5_takesSemicolon_43 : decode cX5_takesSemicolon 43 = .ok (.getfield 42, 3) := by decide +kernel
theorem dX5_takesSemicolon_46 : decode cX5_takesSemicolon 46 = .ok (.iconst 1, 1) := by decide +kernel
theorem dX5_takesSemicolon_47 : decode cX5_takesSemicolon 47 = .ok (.iadd, 1) := by decide +kernel
theorem dX5_takesSemicolon_48 : decode cX5_takesSemicolon 48 = .ok (.putfield 42, 3) := by decide +kernel
theorem dX5_takesSemicolon_51 : decode cX5_takesSemicolon 51 = .ok (.aload_n 0, 1) := by decide +kernel
theorem dX5_takesSemicolon_52 : decode cX5_takesSemicolon 52 = .ok (.iconst 0, 1) := by decide +kernel
theorem dX5_takesSemicolon_53 : decode cX5_takesSemicolon 53 = .ok (.putfield 45, 3) := by decide +kernel
theorem dX5_takesSemicolon_56 : decode cX5_takesSemicolon 56 = .ok (.iconst 1, 1) := by decide +kernel
theorem dX5_takesSemicolon_57 : decode cX5_takesSemicolon 57 = .ok (.ireturn, 1) := by decide +kernel
theorem dX5_isLastTracer_0 : decode cX5_isLastTracer 0 = .ok (.aload_n 0, 1) := by decide +kernel
theorem dX5_isLastTracer_1 : decode cX5_isLastTracer 1 = .ok (.getfield 42, 3) := by decide +kernel
theorem dX5_isLastTracer_4 : decode cX5_isLastTracer 4 = .ok (.ifCond .eq 16, 3) := by decide +kernel
theorem dX5_isLastTracer_7 : decode cX5_isLastTracer 7 = .ok (.aload_n 0, 1) := by decide +kernel
theorem dX5_isLastTracer_8 : decode cX5_isLastTracer 8 = .ok (.getfield 45, 3) := by decide +kernel
theorem dX5_isLastTracer_11 : decode cX5_isLastTracer 11 = .ok (.iconst 1, 1) := by decide +kernel
theorem dX5_isLastTracer_12 : decode cX5_isLastTracer 12 = .ok (.iadd, 1) := by decide +kernel
theorem dX5_isLastTracer_13 : decode cX5_isLastTracer 13 = .ok (.aload_n 0, 1) := by decide +kernel
theorem dX5_isLastTracer_14 : decode cX5_isLastTracer 14 = .ok (.getfield 48, 3) := by decide +kernel
theorem dX5_isLastTracer_17 : decode cX5_isLastTracer 17 = .ok (.if_icmp .ne 7, 3) := by decide +kernel
theorem dX5_isLastTracer_20 : decode cX5_isLastTracer 20 = .ok (.iconst 1, 1) := by decide +kernel
theorem dX5_isLastTracer_21 : decode cX5_isLastTracer 21 = .ok (.goto 4, 3) := by decide +kernel
theorem dX5_isLastTracer_24 : decode cX5_isLastTracer 24 = .ok (.iconst 0, 1) := by decide +kernel
theorem dX5_isLastTracer_25 : decode cX5_isLastTracer 25 = .ok (.ireturn, 1) := by decide +kernel
theorem dX5_keepNumber_0 : decode cX5_keepNumber 0 = .ok (.aload_n 0, 1) := by decide +kernel
theorem dX5_keepNumber_1 : decode cX5_keepNumber 1 = .ok (.getfield 42, 3) := by decide +kernel
theorem dX5_keepNumber_4 : decode cX5_keepNumber 4 = .ok (.iconst 4, 1) := by decide +kernel
theorem dX5_keepNumber_5 : decode cX5_keepNumber 5 = .ok (.imul, 1) := by decide +kernel
theorem dX5_keepNumber_6 : decode cX5_keepNumber 6 = .ok (.aload_n 0, 1) := by decide +kernel
theorem dX5_keepNumber_7 : decode cX5_keepNumber 7 = .ok (.getfield 45, 3) := by decide +kernel
theorem dX5_keepNumber_10 : decode cX5_keepNumber 10 = .ok (.iadd, 1) := by decide +kernel
theorem dX5_keepNumber_11 : decode cX5_keepNumber 11 = .ok (.istore_n 1, 1) := by decide +kernel
theorem dX5_keepNumber_12 : decode cX5_keepNumber 12 = .ok (.iload_n 1, 1) := by decide +kernel
theorem dX5_keepNumber_13 : decode cX5_keepNumber 13 = .ok (.ifCond .lt 19, 3) := by decide +kernel
theorem dX5_keepNumber_16 : decode cX5_keepNumber 16 = .ok (.iload_n 1, 1) := by decide +kernel
theorem dX5_keepNumber_17 : decode cX5_keepNumber 17 = .ok (.bipush 16, 2) := by decide +kernel
theorem dX5_keepNumber_19 : decode cX5_keepNumber 19 = .ok (.if_icmp .ge 13, 3) := by decide +kernel
theorem dX5_keepNumber_22 : decode cX5_keepNumber 22 = .ok (.aload_n 0, 1) := by decide +kernel
theorem dX5_keepNumber_23 : decode cX5_keepNumber 23 = .ok (.getfield 9, 3) := by decide +kernel
theorem dX5_keepNumber_26 : decode cX5_keepNumber 26 = .ok (.iload_n 1, 1) := by decide +kernel
theorem dX5_keepNumber_27 : decode cX5_keepNumber 27 = .ok (.aload_n 0, 1) := by decide +kernel
theorem dX5_keepNumber_28 : decode cX5_keepNumber 28 = .ok (.getfield 32, 3) := by decide +kernel
theorem dX5_keepNumber_31 : decode cX5_keepNumber 31 = .ok (.iastore, 1) := by decide +kernel
theorem dX5_keepNumber_32 : decode cX5_keepNumber 32 = .ok (.aload_n 0, 1) := by decide +kernel
theorem dX5_keepNumber_33 : decode cX5_keepNumber 33 = .ok (.iconst (-1), 1) := by decide +kernel
theorem dX5_keepNumber_34 : decode cX5_keepNumber 34 = .ok (.putfield 32, 3) := by decide +kernel
theorem dX5_keepNumber_37 : decode cX5_keepNumber 37 = .ok (.return_, 1) := by decide +kernel
theorem dJ6_bitCount_0f7a4_0 : decode cJ6_bitCount_0f7a4 0 = .ok (.iload_n 0, 1) := by decide +kernel
theorem dJ6_bitCount_0f7a4_1 : decode cJ6_bitCount_0f7a4 1 = .ok (.iload_n 0, 1) := by decide +kernel
theorem dJ6_bitCount_0f7a4_2 : decode cJ6_bitCount_0f7a4 2 = .ok (.iconst 1, 1) := by decide +kernel
theorem dJ6_bitCount_0f7a4_3 : decode cJ6_bitCount_0f7a4 3 = .ok (.iushr, 1) := by decide +kernel
theorem dJ6_bitCount_0f7a4_4 : decode cJ6_bitCount_0f7a4 4 = .ok (.ldc_w 265, 3) := by decide +kernel
theorem dJ6_bitCount_0f7a4_7 : decode cJ6_bitCount_0f7a4 7 = .ok (.iand, 1) := by decide +kernel
theorem dJ6_bitCount_0f7a4_8 : decode cJ6_bitCount_0f7a4 8 = .ok (.isub, 1) := by decide +kernel
theorem dJ6_bitCount_0f7a4_9 : decode cJ6_bitCount_0f7a4 9 = .ok (.istore_n 0, 1) := by decide +kernel
theorem dJ6_bitCount_0f7a4_10 : decode cJ6_bitCount_0f7a4 10 = .ok (.iload_n 0, 1) := by decide +kernel
theorem dJ6_bitCount_0f7a4_11 : decode cJ6_bitCount_0f7a4 11 = .ok (.ldc_w 266, 3) := by decide +kernel
theorem dJ6_bitCount_0f7a4_14 : decode cJ6_bitCount_0f7a4 14 = .ok (.iand, 1) := by decide +kernel
theorem dJ6_bitCount_0f7a4_15 : decode cJ6_bitCount_0f7a4 15 = .ok (.iload_n 0, 1) := by decide +kernel
theorem dJ6_bitCount_0f7a4_16 : decode cJ6_bitCount_0f7a4 16 = .ok (.iconst 2, 1) := by decide +kernel
theorem dJ6_bitCount_0f7a4_17 : decode cJ6_bitCount_0f7a4 17 = .ok (.iushr, 1) := by decide +kernel
theorem dJ6_bitCount_0f7a4_18 : decode cJ6_bitCount_0f7a4 18 = .ok (.ldc_w 266, 3) := by decide +kernel
theorem dJ6_bitCount_0f7a4_21 : decode cJ6_bitCount_0f7a4 21 = .ok (.iand, 1) := by decide +kernel
theorem dJ6_bitCount_0f7a4_22 : decode cJ6_bitCount_0f7a4 22 = .ok (.iadd, 1) := by decide +kernel
theorem dJ6_bitCount_0f7a4_23 : decode cJ6_bitCount_0f7a4 23 = .ok (.istore_n 0, 1) := by decide +kernel
theorem dJ6_bitCount_0f7a4_24 : decode cJ6_bitCount_0f7a4 24 = .ok (.iload_n 0, 1) := by decide +kernel
theorem dJ6_bitCount_0f7a4_25 : decode cJ6_bitCount_0f7a4 25 = .ok (.iload_n 0, 1) := by decide +kernel
theorem dJ6_bitCount_0f7a4_26 : decode cJ6_bitCount_0f7a4 26 = .ok (.iconst 4, 1) := by decide +kernel
theorem dJ6_bitCount_0f7a4_27 : decode cJ6_bitCount_0f7a4 27 = .ok (.iushr, 1) := by decide +kernel
theorem dJ6_bitCount_0f7a4_28 : decode cJ6_bitCount_0f7a4 28 = .ok (.iadd, 1) := by decide +kernel
theorem dJ6_bitCount_0f7a4_29 : decode cJ6_bitCount_0f7a4 29 = .ok (.ldc_w 267, 3) := by decide +kernel
theorem dJ6_bitCount_0f7a4_32 : decode cJ6_bitCount_0f7a4 32 = .ok (.iand, 1) := by decide +kernel
theorem dJ6_bitCount_0f7a4_33 : decode cJ6_bitCount_0f7a4 33 = .ok (.istore_n 0, 1) := by decide +kernel
theorem dJ6_bitCount_0f7a4_34 : decode cJ6_bitCount_0f7a4 34 = .ok (.iload_n 0, 1) := by decide +kernel
theorem dJ6_bitCount_0f7a4_35 : decode cJ6_bitCount_0f7a4 35 = .ok (.iload_n 0, 1) := by decide +kernel
theorem dJ6_bitCount_0f7a4_36 : decode cJ6_bitCount_0f7a4 36 = .ok (.bipush 8, 2) := by decide +kernel
theorem dJ6_bitCount_0f7a4_38 : decode cJ6_bitCount_0f7a4 38 = .ok (.iushr, 1) := by decide +kernel
theorem dJ6_bitCount_0f7a4_39 : decode cJ6_bitCount_0f7a4 39 = .ok (.iadd, 1) := by decide +kernel
theorem dJ6_bitCount_0f7a4_40 : decode cJ6_bitCount_0f7a4 40 = .ok (.istore_n 0, 1) := by decide +kernel
theorem dJ6_bitCount_0f7a4_41 : decode cJ6_bitCount_0f7a4 41 = .ok (.iload_n 0, 1) := by decide +kernel
theorem dJ6_bitCount_0f7a4_42 : decode cJ6_bitCount_0f7a4 42 = .ok (.iload_n 0, 1) := by decide +kernel
theorem dJ6_bitCount_0f7a4_43 : decode cJ6_bitCount_0f7a4 43 = .ok (.bipush 16, 2) := by decide +kernel
theorem dJ6_bitCount_0f7a4_45 : decode cJ6_bitCount_0f7a4 45 = .ok (.iushr, 1) := by decide +kernel
theorem dJ6_bitCount_0f7a4_46 : decode cJ6_bitCount_0f7a4 46 = .ok (.iadd, 1) := by decide +kernel
theorem dJ6_bitCount_0f7a4_47 : decode cJ6_bitCount_0f7a4 47 = .ok (.istore_n 0, 1) := by decide +kernel
theorem dJ6_bitCount_0f7a4_48 : decode cJ6_bitCount_0f7a4 48 = .ok (.iload_n 0, 1) := by decide +kernel
theorem dJ6_bitCount_0f7a4_49 : decode cJ6_bitCount_0f7a4 49 = .ok (.bipush 63, 2) := by decide +kernel
theorem dJ6_bitCount_0f7a4_51 : decode cJ6_bitCount_0f7a4 51 = .ok (.iand, 1) := by decide +kernel
theorem dJ6_bitCount_0f7a4_52 : decode cJ6_bitCount_0f7a4 52 = .ok (.ireturn, 1) := by decide +kernel
theorem dJ13_compare_74951_0 : decode cJ13_compare_74951 0 = .ok (.lload_n 0, 1) := by decide +kernel
theorem dJ13_compare_74951_1 : decode cJ13_compare_74951 1 = .ok (.lload_n 2, 1) := by decide +kernel
theorem dJ13_compare_74951_2 : decode cJ13_compare_74951 2 = .ok (.lcmp, 1) := by decide +kernel
theorem dJ13_compare_74951_3 : decode cJ13_compare_74951 3 = .ok (.ifCond .ge 7, 3) := by decide +kernel
theorem dJ13_compare_74951_6 : decode cJ13_compare_74951 6 = .ok (.iconst (-1), 1) := by decide +kernel
theorem dJ13_compare_74951_7 : decode cJ13_compare_74951 7 = .ok (.goto 14, 3) := by decide +kernel
theorem dJ13_compare_74951_10 : decode cJ13_compare_74951 10 = .ok (.lload_n 0, 1) := by decide +kernel
theorem dJ13_compare_74951_11 : decode cJ13_compare_74951 11 = .ok (.lload_n 2, 1) := by decide +kernel
theorem dJ13_compare_74951_12 : decode cJ13_compare_74951 12 = .ok (.lcmp, 1) := by decide +kernel
theorem dJ13_compare_74951_13 : decode cJ13_compare_74951 13 = .ok (.ifCond .ne 7, 3) := by decide +kernel
theorem dJ13_compare_74951_16 : decode cJ13_compare_74951 16 = .ok (.iconst 0, 1) := by decide +kernel
theorem dJ13_compare_74951_17 : decode cJ13_compare_74951 17 = .ok (.goto 4, 3) := by decide +kernel
theorem dJ13_compare_74951_20 : decode cJ13_compare_74951 20 = .ok (.iconst 1, 1) := by decide +kernel
theorem dJ13_compare_74951_21 : decode cJ13_compare_74951 21 = .ok (.ireturn, 1) := by decide +kernel
theorem dJ9_abs_067f4_0 : decode cJ9_abs_067f4 0 = .ok (.lload_n 0, 1) := by decide +kernel
theorem dJ9_abs_067f4_1 : decode cJ9_abs_067f4 1 = .ok (.lconst 0, 1) := by decide +kernel
theorem dJ9_abs_067f4_2 : decode cJ9_abs_067f4 2 = .ok (.lcmp, 1) := by decide +kernel
theorem dJ9_abs_067f4_3 : decode cJ9_abs_067f4 3 = .ok (.ifCond .ge 8, 3) := by decide +kernel
theorem dJ9_abs_067f4_6 : decode cJ9_abs_067f4 6 = .ok (.lload_n 0, 1) := by decide +kernel
theorem dJ9_abs_067f4_7 : decode cJ9_abs_067f4 7 = .ok (.lneg, 1) := by decide +kernel
theorem dJ9_abs_067f4_8 : decode cJ9_abs_067f4 8 = .ok (.goto 4, 3) := by decide +kernel
theorem dJ9_abs_067f4_11 : decode cJ9_abs_067f4 11 = .ok (.lload_n 0, 1) := by decide +kernel
theorem dJ9_abs_067f4_12 : decode cJ9_abs_067f4 12 = .ok (.lreturn, 1) := by decide +kernel
end
section
theorem dX6_init_0 : decode cX6_init 0 = .ok (.aload_n 0, 1) := by decide +kernel
theorem dX6_init_1 : decode cX6_init 1 = .ok (.invokespecial 3, 3) := by decide +kernel
theorem dX6_init_4 : decode cX6_init 4 = .ok (.aload_n 0, 1) := by decide +kernel
theorem dX6_init_5 : decode cX6_init 5 = .ok (.new 9, 3) := by decide +kernel
theorem dX6_init_8 : decode cX6_init 8 = .ok (.dup, 1) := by decide +kernel
theorem dX6_init_9 : decode cX6_init 9 = .ok (.invokespecial 11, 3) := by decide +kernel
theorem dX6_init_12 : decode cX6_init 12 = .ok (.putfield 12, 3) := by decide +kernel
theorem dX6_init_15 : decode cX6_init 15 = .ok (.aload_n 0, 1) := by decide +kernel
theorem dX6_init_16 : decode cX6_init 16 = .ok (.new 16, 3) := by decide +kernel
theorem dX6_init_19 : decode cX6_init 19 = .ok (.dup, 1) := by decide +kernel
theorem dX6_init_20 : decode cX6_init 20 = .ok (.invokespecial 18, 3) := by decide +kernel
theorem dX6_init_23 : decode cX6_init 23 = .ok (.putfield 19, 3) := by decide +kernel
theorem dX6_init_26 : decode cX6_init 26 = .ok (.aload_n 0, 1) := by decide +kernel
theorem dX6_init_27 : decode cX6_init 27 = .ok (.new 23, 3) := by decide +kernel
theorem dX6_init_30 : decode cX6_init 30 = .ok (.dup, 1) := by decide +kernel
theorem dX6_init_31 : decode cX6_init 31 = .ok (.invokespecial 25, 3) := by decide +kernel
theorem dX6_init_34 : decode cX6_init 34 = .ok (.putfield 26, 3) := by decide +kernel
theorem dX6_init_37 : decode cX6_init 37 = .ok (.aload_n 0, 1) := by decide +kernel
theorem dX6_init_38 : decode cX6_init 38 = .ok (.new 30, 3) := by decide +kernel
theorem dX6_init_41 : decode cX6_init 41 = .ok (.dup, 1) := by decide +kernel
theorem dX6_init_42 : decode cX6_init 42 = .ok (.aload_n 0, 1) := by decide +kernel
theorem dX6_init_43 : decode cX6_init 43 = .ok (.getfield 26, 3) := by decide +kernel
theorem dX6_init_46 : decode cX6_init 46 = .ok (.invokespecial 32, 3) := by decide +kernel
theorem dX6_init_49 : decode cX6_init 49 = .ok (.putfield 35, 3) := by decide +kernel
theorem dX6_init_52 : decode cX6_init 52 = .ok (.aload_n 0, 1) := by decide +kernel
theorem dX6_init_53 : decode cX6_init 53 = .ok (.new 39, 3) := by decide +kernel
theorem dX6_init_56 : decode cX6_init 56 = .ok (.dup, 1) := by decide +kernel
theorem dX6_init_57 : decode cX6_init 57 = .ok (.invokespecial 41, 3) := by decide +kernel
theorem dX6_init_60 : decode cX6_init 60 = .ok (.putfield 42, 3) := by decide +kernel
theorem dX6_init_63 : decode cX6_init 63 = .ok (.return_, 1) := by decide +kernel
theorem dX6_letter_0 : decode cX6_letter 0 = .ok (.iload_n 1, 1) := by decide +kernel
theorem dX6_letter_1 : decode cX6_letter 1 = .ok (.bipush 32, 2) := by decide +kernel
theorem dX6_letter_3 : decode cX6_letter 3 = .ok (.if_icmp .lt 9, 3) := by decide +kernel
theorem dX6_letter_6 : decode cX6_letter 6 = .ok (.iload_n 1, 1) := by decide +kernel
theorem dX6_letter_7 : decode cX6_letter 7 = .ok (.bipush 126, 2) := by decide +kernel
theorem dX6_letter_9 : decode cX6_letter 9 = .ok (.if_icmp .le 7, 3) := by decide +kernel
theorem dX6_letter_12 : decode cX6_letter 12 = .ok (.ldc2_w 46, 3) := by decide +kernel
theorem dX6_letter_15 : decode cX6_letter 15 = .ok (.lreturn, 1) := by decide +kernel
theorem dX6_letter_16 : decode cX6_letter 16 = .ok (.aload_n 0, 1) := by decide +kernel
theorem dX6_letter_17 : decode cX6_letter 17 = .ok (.getfield 12, 3) := by decide +kernel
theorem dX6_letter_20 : decode cX6_letter 20 = .ok (.invokevirtual 48, 3) := by decide +kernel
theorem dX6_letter_23 : decode cX6_letter 23 = .ok (.ifCond .eq 7, 3) := by decide +kernel
theorem dX6_letter_26 : decode cX6_letter 26 = .ok (.ldc2_w 52, 3) := by decide +kernel
theorem dX6_letter_29 : decode cX6_letter 29 = .ok (.lreturn, 1) := by decide +kernel
theorem dX6_letter_30 : decode cX6_letter 30 = .ok (.aload_n 0, 1) := by decide +kernel
theorem dX6_letter_31 : decode cX6_letter 31 = .ok (.getfield 12, 3) := by decide +kernel
theorem dX6_letter_34 : decode cX6_letter 34 = .ok (.iload_n 1, 1) := by decide +kernel
theorem dX6_letter_35 : decode cX6_letter 35 = .ok (.invokevirtual 54, 3) := by decide +kernel
theorem dX6_letter_38 : decode cX6_letter 38 = .ok (.aload_n 0, 1) := by decide +kernel
theorem dX6_letter_39 : decode cX6_letter 39 = .ok (.getfield 12, 3) := by decide +kernel
theorem dX6_letter_42 : decode cX6_letter 42 = .ok (.getfield 58, 3) := by decide +kernel
theorem dX6_letter_45 : decode cX6_letter 45 = .ok (.i2l, 1) := by decide +kernel
theorem dX6_letter_46 : decode cX6_letter 46 = .ok (.lreturn, 1) := by decide +kernel
theorem dX6_blank_0 : decode cX6_blank 0 = .ok (.aload_n 0, 1) := by decide +kernel
theorem dX6_blank_1 : decode cX6_blank 1 = .ok (.getfield 12, 3) := by decide +kernel
theorem dX6_blank_4 : decode cX6_blank 4 = .ok (.getfield 58, 3) := by decide +kernel
theorem dX6_blank_7 : decode cX6_blank 7 = .ok (.i2l, 1) := by decide +kernel
theorem dX6_blank_8 : decode cX6_blank 8 = .ok (.lstore_n 1, 1) := by decide +kernel
theorem dX6_blank_9 : decode cX6_blank 9 = .ok (.aload_n 0, 1) := by decide +kernel
theorem dX6_blank_10 : decode cX6_blank 10 = .ok (.getfield 12, 3) := by decide +kernel
theorem dX6_blank_13 : decode cX6_blank 13 = .ok (.invokevirtual 62, 3) := by decide +kernel
theorem dX6_blank_16 : decode cX6_blank 16 = .ok (.lload_n 1, 1) := by decide +kernel
theorem dX6_blank_17 : decode cX6_blank 17 = .ok (.lreturn, 1) := by decide +kernel
theorem dX6_fault_0 : decode cX6_fault 0 = .ok (.aload_n 0, 1) := by decide +kernel
theorem dX6_fault_1 : decode cX6_fault 1 = .ok (.getfield 19, 3) := by decide +kernel
theorem dX6_fault_4 : decode cX6_fault 4 = .ok (.aload_n 0, 1) := by decide +kernel
theorem dX6_fault_5 : decode cX6_fault 5 = .ok (.getfield 12, 3) := by decide +kernel
theorem dX6_fault_8 : decode cX6_fault 8 = .ok (.invokevirtual 65, 3) := by decide +kernel
theorem dX6_fault_11 : decode cX6_fault 11 = .ok (.i2l, 1) := by decide +kernel
theorem dX6_fault_12 : decode cX6_fault 12 = .ok (.lreturn, 1) := by decide +kernel
theorem dX6_sources_0 : decode cX6_sources 0 = .ok (.aload_n 0, 1) := by decide +kernel
theorem dX6_sources_1 : decode cX6_sources 1 = .ok (.getfield 19, 3) := by decide +kernel
theorem dX6_sources_4 : decode cX6_sources 4 = .ok (.aload_n 0, 1) := by decide +kernel
theorem dX6_sources_5 : decode cX6_sources 5 = .ok (.getfield 12, 3) := by decide +kernel
theorem dX6_sources_8 : decode cX6_sources 8 = .ok (.invokevirtual 65, 3) := by decide +kernel
theorem dX6_sources_11 : decode cX6_sources 11 = .ok (.aload_n 0, 1) := by decide +kernel
theorem dX6_sources_12 : decode cX6_sources 12 = .ok (.getfield 12, 3) := by decide +kernel
theorem dX6_sources_15 : decode cX6_sources 15 = .ok (.getfield 58, 3) := by decide +kernel
theorem dX6_sources_18 : decode cX6_sources 18 = .ok (.if_icmp .lt 13, 3) := by decide +kernel
theorem dX6_sources_21 : decode cX6_sources 21 = .ok (.aload_n 0, 1) := by decide +kernel
theorem dX6_sources_22 : decode cX6_sources 22 = .ok (.getfield 19, 3) := by decide +kernel
theorem dX6_sources_25 : decode cX6_sources 25 = .ok (.invokevirtual 69, 3) := by decide +kernel
theorem dX6_sources_28 : decode cX6_sources 28 = .ok (.ifCond .ne 7, 3) := by decide +kernel
theorem dX6_sources_31 : decode cX6_sources 31 = .ok (.ldc2_w 72, 3) := by decide +kernel
theorem dX6_sources_34 : decode cX6_sources 34 = .ok (.lreturn, 1) := by decide +kernel
theorem dX6_sources_35 : decode cX6_sources 35 = .ok (.aload_n 0, 1) := by decide +kernel
theorem dX6_sources_36 : decode cX6_sources 36 = .ok (.getfield 26, 3) := by decide +kernel
theorem dX6_sources_39 : decode cX6_sources 39 = .ok (.aload_n 0, 1) := by decide +kernel
theorem dX6_sources_40 : decode cX6_sources 40 = .ok (.getfield 19, 3) := by decide +kernel
theorem dX6_sources_43 : decode cX6_sources 43 = .ok (.invokevirtual 74, 3) := by decide +kernel
theorem dX6_sources_46 : decode cX6_sources 46 = .ok (.aload_n 0, 1) := by decide +kernel
theorem dX6_sources_47 : decode cX6_sources 47 = .ok (.getfield 12, 3) := by decide +kernel
theorem dX6_sources_50 : decode cX6_sources 50 = .ok (.invokevirtual 62, 3) := by decide +kernel
theorem dX6_sources_53 : decode cX6_sources 53 = .ok (.aload_n 0, 1) := by decide +kernel
theorem dX6_sources_54 : decode cX6_sources 54 = .ok (.dup, 1) := by decide +kernel
theorem dX6_sources_55 : decode cX6_sources 55 = .ok (.getfield 78, 3) := by decide +kernel
theorem dX6_sources_58 : decode cX6_sources 58 = .ok (.lconst 1, 1) := by decide +kernel
theorem dX6_sources_59 : decode cX6_sources 59 = .ok (.ladd, 1) := by decide +kernel
theorem dX6_sources_60 : decode cX6_sources 60 = .ok (.putfield 78, 3) := by decide +kernel
theorem dX6_sources_63 : decode cX6_sources 63 = .ok (.aload_n 0, 1) := by decide +kernel
theorem dX6_sources_64 : decode cX6_sources 64 = .ok (.getfield 26, 3) := by decide +kernel
theorem dX6_sources_67 : decode cX6_sources 67 = .ok (.getfield 82, 3) := by decide +kernel
theorem dX6_sources_70 : decode cX6_sources 70 = .ok (.i2l, 1) := by decide +kernel
theorem dX6_sources_71 : decode cX6_sources 71 = .ok (.lreturn, 1) := by decide +kernel
theorem dX6_set_0 : decode cX6_set 0 = .ok (.aload_n 0, 1) := by decide +kernel
theorem dX6_set_1 : decode cX6_set 1 = .ok (.getfield 26, 3) := by decide +kernel
theorem dX6_set_4 : decode cX6_set 4 = .ok (.iload_n 1, 1) := by decide +kernel
theorem dX6_set_5 : decode cX6_set 5 = .ok (.invokevirtual 85, 3) := by decide +kernel
theorem dX6_set_8 : decode cX6_set 8 = .ok (.ifCond .ne 7, 3) := by decide +kernel
theorem dX6_set_11 : decode cX6_set 11 = .ok (.ldc2_w 89, 3) := by decide +kernel
theorem dX6_set_14 : decode cX6_set 14 = .ok (.lreturn, 1) := by decide +kernel
theorem dX6_set_15 : decode cX6_set 15 = .ok (.iload_n 2, 1) := by decide +kernel
theorem dX6_set_16 : decode cX6_set 16 = .ok (.ifCond .ne 24, 3) := by decide +kernel
theorem dX6_set_19 : decode cX6_set 19 = .ok (.iload_n 3, 1) := by decide +kernel
theorem dX6_set_20 : decode cX6_set 20 = .ok (.invokestatic 91, 3) := by decide +kernel
theorem dX6_set_23 : decode cX6_set 23 = .ok (.ifCond .eq 13, 3) := by decide +kernel
theorem dX6_set_26 : decode cX6_set 26 = .ok (.aload_n 0, 1) := by decide +kernel
theorem dX6_set_27 : decode cX6_set 27 = .ok (.iconst 4, 1) := by decide +kernel
theorem dX6_set_28 : decode cX6_set 28 = .ok (.iload_n 1, 1) := by decide +kernel
theorem dX6_set_29 : decode cX6_set 29 = .ok (.iload_n 3, 1) := by decide +kernel
theorem dX6_set_30 : decode cX6_set 30 = .ok (.invokevirtual 94, 3) := by decide +kernel
theorem dX6_set_33 : decode cX6_set 33 = .ok (.goto 6, 3) := by decide +kernel
theorem dX6_set_36 : decode cX6_set 36 = .ok (.ldc2_w 46, 3) := by decide +kernel
theorem dX6_set_39 : decode cX6_set 39 = .ok (.lreturn, 1) := by decide +kernel
theorem dX6_set_40 : decode cX6_set 40 = .ok (.iload_n 2, 1) := by decide +kernel
theorem dX6_set_41 : decode cX6_set 41 = .ok (.iconst 1, 1) := by decide +kernel
theorem dX6_set_42 : decode cX6_set 42 = .ok (.if_icmp .ne 46, 3) := by decide +kernel
theorem dX6_set_45 : decode cX6_set 45 = .ok (.iload_n 3, 1) := by decide +kernel
theorem dX6_set_46 : decode cX6_set 46 = .ok (.iconst 1, 1) := by decide +kernel
theorem dX6_set_47 : decode cX6_set 47 = .ok (.if_icmp .lt 41, 3) := by decide +kernel
theorem dX6_set_50 : decode cX6_set 50 = .ok (.iload_n 3, 1) := by decide +kernel
theorem dX6_set_51 : decode cX6_set 51 = .ok (.iconst 5, 1) := by decide +kernel
theorem dX6_set_52 : decode cX6_set 52 = .ok (.if_icmp .gt 36, 3) := by decide +kernel
theorem dX6_set_55 : decode cX6_set 55 = .ok (.aload_n 0, 1) := by decide +kernel
theorem dX6_set_56 : decode cX6_set 56 = .ok (.getfield 26, 3) := by decide +kernel
theorem dX6_set_59 : decode cX6_set 59 = .ok (.iload_n 1, 1) := by decide +kernel
theorem dX6_set_60 : decode cX6_set 60 = .ok (.invokevirtual 98, 3) := by decide +kernel
theorem dX6_set_63 : decode cX6_set 63 = .ok (.i2l, 1) := by decide +kernel
theorem dX6_set_64 : decode cX6_set 64 = .ok (.lstore 4, 2) := by decide +kernel
theorem dX6_set_66 : decode cX6_set 66 = .ok (.aload_n 0, 1) := by decide +kernel
theorem dX6_set_67 : decode cX6_set 67 = .ok (.getfield 26, 3) := by decide +kernel
theorem dX6_set_70 : decode cX6_set 70 = .ok (.iload_n 1, 1) := by decide +kernel
theorem dX6_set_71 : decode cX6_set 71 = .ok (.iload_n 3, 1) := by decide +kernel
theorem dX6_set_72 : decode cX6_set 72 = .ok (.invokevirtual 102, 3) := by decide +kernel
theorem dX6_set_75 : decode cX6_set 75 = .ok (.aload_n 0, 1) := by decide +kernel
theorem dX6_set_76 : decode cX6_set 76 = .ok (.dup, 1) := by decide +kernel
theorem dX6_set_77 : decode cX6_set 77 = .ok (.getfield 106, 3) := by decide +kernel
theorem dX6_set_80 : decode cX6_set 80 = .ok (.lconst 1, 1) := by decide +kernel
theorem dX6_set_81 : decode cX6_set 81 = .ok (.ladd, 1) := by decide +kernel
theorem dX6_set_82 : decode cX6_set 82 = .ok (.putfield 106, 3) := by decide +kernel
theorem dX6_set_85 : decode cX6_set 85 = .ok (.lload 4, 2) := by decide +kernel
theorem dX6_set_87 : decode cX6_set 87 = .ok (.lreturn, 1) := by decide +kernel
theorem dX6_set_88 : decode cX6_set 88 = .ok (.ldc2_w 46, 3) := by decide +kernel
theorem dX6_set_91 : decode cX6_set 91 = .ok (.lreturn, 1) := by decide +kernel
theorem dX6_alter_0 : decode cX6_alter 0 = .ok (.aload_n 0, 1) := by decide +kernel
theorem dX6_alter_1 : decode cX6_alter 1 = .ok (.getfield 26, 3) := by decide +kernel
theorem dX6_alter_4 : decode cX6_alter 4 = .ok (.iload_n 1, 1) := by decide +kernel
theorem dX6_alter_5 : decode cX6_alter 5 = .ok (.invokevirtual 109, 3) := by decide +kernel
theorem dX6_alter_8 : decode cX6_alter 8 = .ok (.ifCond .eq 14, 3) := by decide +kernel
theorem dX6_alter_11 : decode cX6_alter 11 = .ok (.aload_n 0, 1) := by decide +kernel
theorem dX6_alter_12 : decode cX6_alter 12 = .ok (.getfield 26, 3) := by decide +kernel
theorem dX6_alter_15 : decode cX6_alter 15 = .ok (.iload_n 2, 1) := by decide +kernel
theorem dX6_alter_16 : decode cX6_alter 16 = .ok (.invokevirtual 85, 3) := by decide +kernel
theorem dX6_alter_19 : decode cX6_alter 19 = .ok (.ifCond .ne 7, 3) := by decide +kernel
theorem dX6_alter_22 : decode cX6_alter 22 = .ok (.ldc2_w 89, 3) := by decide +kernel
theorem dX6_alter_25 : decode cX6_alter 25 = .ok (.lreturn, 1) := by decide +kernel
theorem dX6_alter_26 : decode cX6_alter 26 = .ok (.iload_n 3, 1) := by decide +kernel
theorem dX6_alter_27 : decode cX6_alter 27 = .ok (.invokestatic 91, 3) := by decide +kernel
theorem dX6_alter_30 : decode cX6_alter 30 = .ok (.ifCond .eq 13, 3) := by decide +kernel
theorem dX6_alter_33 : decode cX6_alter 33 = .ok (.aload_n 0, 1) := by decide +kernel
theorem dX6_alter_34 : decode cX6_alter 34 = .ok (.iload_n 1, 1) := by decide +kernel
theorem dX6_alter_35 : decode cX6_alter 35 = .ok (.iload_n 2, 1) := by decide +kernel
theorem dX6_alter_36 : decode cX6_alter 36 = .ok (.iload_n 3, 1) := by decide +kernel
theorem dX6_alter_37 : decode cX6_alter 37 = .ok (.invokevirtual 94, 3) := by decide +kernel
theorem dX6_alter_40 : decode cX6_alter 40 = .ok (.goto 6, 3) := by decide +kernel
theorem dX6_alter_43 : decode cX6_alter 43 = .ok (.ldc2_w 46, 3) := by decide +kernel
theorem dX6_alter_46 : decode cX6_alter 46 = .ok (.lreturn, 1) := by decide +kernel
theorem dX6_made_0 : decode cX6_made 0 = .ok (.aload_n 0, 1) := by decide +kernel
theorem dX6_made_1 : decode cX6_made 1 = .ok (.getfield 26, 3) := by decide +kernel
theorem dX6_made_4 : decode cX6_made 4 = .ok (.getfield 82, 3) := by decide +kernel
theorem dX6_made_7 : decode cX6_made 7 = .ok (.ifCond .ne 7, 3) := by decide +kernel
theorem dX6_made_10 : decode cX6_made 10 = .ok (.ldc2_w 72, 3) := by decide +kernel
theorem dX6_made_13 : decode cX6_made 13 = .ok (.lreturn, 1) := by decide +kernel
theorem dX6_made_14 : decode cX6_made 14 = .ok (.iload_n 1, 1) := by decide +kernel
theorem dX6_made_15 : decode cX6_made 15 = .ok (.iconst 1, 1) := by decide +kernel
theorem dX6_made_16 : decode cX6_made 16 = .ok (.if_icmp .lt 17, 3) := by decide +kernel
theorem dX6_made_19 : decode cX6_made 19 = .ok (.iload_n 1, 1) := by decide +kernel
theorem dX6_made_20 : decode cX6_made 20 = .ok (.aload_n 0, 1) := by decide +kernel
theorem dX6_made_21 : decode cX6_made 21 = .ok (.getfield 26, 3) := by decide +kernel
theorem dX6_made_24 : decode cX6_made 24 = .ok (.getfield 82, 3) := by decide +kernel
theorem dX6_made_27 : decode cX6_made 27 = .ok (.invokestatic 112, 3) := by decide +kernel
theorem dX6_made_30 : decode cX6_made 30 = .ok (.if_icmp .lt 7, 3) := by decide +kernel
theorem dX6_made_33 : decode cX6_made 33 = .ok (.ldc2_w 46, 3) := by decide +kernel
theorem dX6_made_36 : decode cX6_made 36 = .ok (.lreturn, 1) := by decide +kernel
theorem dX6_made_37 : decode cX6_made 37 = .ok (.iload_n 1, 1) := by decide +kernel
theorem dX6_made_38 : decode cX6_made 38 = .ok (.invokestatic 115, 3) := by decide +kernel
theorem dX6_made_41 : decode cX6_made 41 = .ok (.istore_n 2, 1) := by decide +kernel
theorem dX6_made_42 : decode cX6_made 42 = .ok (.iconst 0, 1) := by decide +kernel
theorem dX6_made_43 : decode cX6_made 43 = .ok (.istore_n 3, 1) := by decide +kernel
theorem dX6_made_44 : decode cX6_made 44 = .ok (.iload_n 3, 1) := by decide +kernel
theorem dX6_made_45 : decode cX6_made 45 = .ok (.iconst 4, 1) := by decide +kernel
theorem dX6_made_46 : decode cX6_made 46 = .ok (.if_icmp .ge 29, 3) := by decide +kernel
theorem dX6_made_49 : decode cX6_made 49 = .ok (.aload_n 0, 1) := by decide +kernel
theorem dX6_made_50 : decode cX6_made 50 = .ok (.getfield 26, 3) := by decide +kernel
theorem dX6_made_53 : decode cX6_made 53 = .ok (.iload_n 3, 1) := by decide +kernel
theorem dX6_made_54 : decode cX6_made 54 = .ok (.iload_n 1, 1) := by decide +kernel
theorem dX6_made_55 : decode cX6_made 55 = .ok (.invokevirtual 118, 3) := by decide +kernel
theorem dX6_made_58 : decode cX6_made 58 = .ok (.iload_n 2, 1) := by decide +kernel
theorem dX6_made_59 : decode cX6_made 59 = .ok (.invokestatic 122, 3) := by decide +kernel
theorem dX6_made_62 : decode cX6_made 62 = .ok (.ifCond .ne 7, 3) := by decide +kernel
theorem dX6_made_65 : decode cX6_made 65 = .ok (.ldc2_w 72, 3) := by decide +kernel
theorem dX6_made_68 : decode cX6_made 68 = .ok (.lreturn, 1) := by decide +kernel
theorem dX6_made_69 : decode cX6_made 69 = .ok (.iinc 3 1, 3) := by decide +kernel
theorem dX6_made_72 : decode cX6_made 72 = .ok (.goto (-28), 3) := by decide +kernel
theorem dX6_made_75 : decode cX6_made 75 = .ok (.iconst 0, 1) := by decide +kernel
theorem dX6_made_76 : decode cX6_made 76 = .ok (.istore_n 3, 1) := by decide +kernel
theorem dX6_made_77 : decode cX6_made 77 = .ok (.iload_n 3, 1) := by decide +kernel
theorem dX6_made_78 : decode cX6_made 78 = .ok (.iconst 4, 1) := by decide +kernel
theorem dX6_made_79 : decode cX6_made 79 = .ok (.if_icmp .ge 31, 3) := by decide +kernel
theorem dX6_made_82 : decode cX6_made 82 = .ok (.aload_n 0, 1) := by decide +kernel
theorem dX6_made_83 : decode cX6_made 83 = .ok (.getfield 26, 3) := by decide +kernel
theorem dX6_made_86 : decode cX6_made 86 = .ok (.iconst 4, 1) := by decide +kernel
theorem dX6_made_87 : decode cX6_made 87 = .ok (.iload_n 3, 1) := by decide +kernel
theorem dX6_made_88 : decode cX6_made 88 = .ok (.aload_n 0, 1) := by decide +kernel
theorem dX6_made_89 : decode cX6_made 89 = .ok (.getfield 26, 3) := by decide +kernel
theorem dX6_made_92 : decode cX6_made 92 = .ok (.iload_n 3, 1) := by decide +kernel
theorem dX6_made_93 : decode cX6_made 93 = .ok (.iload_n 1, 1) := by decide +kernel
theorem dX6_made_94 : decode cX6_made 94 = .ok (.invokevirtual 118, 3) := by decide +kernel
theorem dX6_made_97 : decode cX6_made 97 = .ok (.iload_n 2, 1) := by decide +kernel
theorem dX6_made_98 : decode cX6_made 98 = .ok (.invokestatic 126, 3) := by decide +kernel
theorem dX6_made_101 : decode cX6_made 101 = .ok (.invokevirtual 129, 3) := by decide +kernel
theorem dX6_made_104 : decode cX6_made 104 = .ok (.iinc 3 1, 3) := by decide +kernel
theorem dX6_made_107 : decode cX6_made 107 = .ok (.goto (-30), 3) := by decide +kernel
theorem dX6_made_110 : decode cX6_made 110 = .ok (.aload_n 0, 1) := by decide +kernel
theorem dX6_made_111 : decode cX6_made 111 = .ok (.dup, 1) := by decide +kernel
theorem dX6_made_112 : decode cX6_made 112 = .ok (.getfield 106, 3) := by decide +kernel
theorem dX6_made_115 : decode cX6_made 115 = .ok (.lconst 1, 1) := by decide +kernel
theorem dX6_made_116 : decode cX6_made 116 = .ok (.ladd, 1) := by decide +kernel
theorem dX6_made_117 : decode cX6_made 117 = .ok (.putfield 106, 3) := by decide +kernel
theorem dX6_made_120 : decode cX6_made 120 = .ok (.iload_n 2, 1) := by decide +kernel
theorem dX6_made_121 : decode cX6_made 121 = .ok (.i2l, 1) := by decide +kernel
theorem dX6_made_122 : decode cX6_made 122 = .ok (.lreturn, 1) := by decide +kernel
theorem dX6_has_0 : decode cX6_has 0 = .ok (.aload_n 0, 1) := by decide +kernel
theorem dX6_has_1 : decode cX6_has 1 = .ok (.getfield 26, 3) := by decide +kernel
theorem dX6_has_4 : decode cX6_has 4 = .ok (.iload_n 1, 1) := by decide +kernel
theorem dX6_has_5 : decode cX6_has 5 = .ok (.invokevirtual 109, 3) := by decide +kernel
theorem dX6_has_8 : decode cX6_has 8 = .ok (.ifCond .ne 7, 3) := by decide +kernel
theorem dX6_has_11 : decode cX6_has 11 = .ok (.ldc2_w 89, 3) := by decide +kernel
theorem dX6_has_14 : decode cX6_has 14 = .ok (.lreturn, 1) := by decide +kernel
theorem dX6_has_15 : decode cX6_has 15 = .ok (.iload_n 2, 1) := by decide +kernel
theorem dX6_has_16 : decode cX6_has 16 = .ok (.ifCond .lt 8, 3) := by decide +kernel
theorem dX6_has_19 : decode cX6_has 19 = .ok (.iload_n 2, 1) := by decide +kernel
theorem dX6_has_20 : decode cX6_has 20 = .ok (.iconst 4, 1) := by decide +kernel
theorem dX6_has_21 : decode cX6_has 21 = .ok (.if_icmp .lt 7, 3) := by decide +kernel
theorem dX6_has_24 : decode cX6_has 24 = .ok (.ldc2_w 46, 3) := by decide +kernel
theorem dX6_has_27 : decode cX6_has 27 = .ok (.lreturn, 1) := by decide +kernel
theorem dX6_has_28 : decode cX6_has 28 = .ok (.aload_n 0, 1) := by decide +kernel
theorem dX6_has_29 : decode cX6_has 29 = .ok (.getfield 26, 3) := by decide +kernel
theorem dX6_has_32 : decode cX6_has 32 = .ok (.iload_n 2, 1) := by decide +kernel
theorem dX6_has_33 : decode cX6_has 33 = .ok (.invokevirtual 85, 3) := by decide +kernel
theorem dX6_has_36 : decode cX6_has 36 = .ok (.ifCond .eq 16, 3) := by decide +kernel
theorem dX6_has_39 : decode cX6_has 39 = .ok (.aload_n 0, 1) := by decide +kernel
theorem dX6_has_40 : decode cX6_has 40 = .ok (.getfield 26, 3) := by decide +kernel
theorem dX6_has_43 : decode cX6_has 43 = .ok (.iload_n 1, 1) := by decide +kernel
theorem dX6_has_44 : decode cX6_has 44 = .ok (.iload_n 2, 1) := by decide +kernel
theorem dX6_has_45 : decode cX6_has 45 = .ok (.invokevirtual 132, 3) := by decide +kernel
theorem dX6_has_48 : decode cX6_has 48 = .ok (.i2l, 1) := by decide +kernel
theorem dX6_has_49 : decode cX6_has 49 = .ok (.goto 6, 3) := by decide +kernel
theorem dX6_has_52 : decode cX6_has 52 = .ok (.ldc2_w 135, 3) := by decide +kernel
theorem dX6_has_55 : decode cX6_has 55 = .ok (.lreturn, 1) := by decide +kernel
theorem dX6_tracer_0 : decode cX6_tracer 0 = .ok (.aload_n 0, 1) := by decide +kernel
theorem dX6_tracer_1 : decode cX6_tracer 1 = .ok (.getfield 26, 3) := by decide +kernel
theorem dX6_tracer_4 : decode cX6_tracer 4 = .ok (.iload_n 1, 1) := by decide +kernel
theorem dX6_tracer_5 : decode cX6_tracer 5 = .ok (.invokevirtual 85, 3) := by decide +kernel
theorem dX6_tracer_8 : decode cX6_tracer 8 = .ok (.ifCond .ne 7, 3) := by decide +kernel
theorem dX6_tracer_11 : decode cX6_tracer 11 = .ok (.ldc2_w 89, 3) := by decide +kernel
theorem dX6_tracer_14 : decode cX6_tracer 14 = .ok (.lreturn, 1) := by decide +kernel
theorem dX6_tracer_15 : decode cX6_tracer 15 = .ok (.iload_n 2, 1) := by decide +kernel
theorem dX6_tracer_16 : decode cX6_tracer 16 = .ok (.lookupswitch 49 #[(0, 28), (1, 39)], 28) := by decide +kernel
theorem dX6_tracer_44 : decode cX6_tracer 44 = .ok (.aload_n 0, 1) := by decide +kernel
theorem dX6_tracer_45 : decode cX6_tracer 45 = .ok (.getfield 26, 3) := by decide +kernel
theorem dX6_tracer_48 : decode cX6_tracer 48 = .ok (.iconst 4, 1) := by decide +kernel
theorem dX6_tracer_49 : decode cX6_tracer 49 = .ok (.iload_n 1, 1) := by decide +kernel
theorem dX6_tracer_50 : decode cX6_tracer 50 = .ok (.invokevirtual 132, 3) := by decide +kernel
theorem dX6_tracer_53 : decode cX6_tracer 53 = .ok (.i2l, 1) := by decide +kernel
theorem dX6_tracer_54 : decode cX6_tracer 54 = .ok (.lreturn, 1) := by decide +kernel
theorem dX6_tracer_55 : decode cX6_tracer 55 = .ok (.aload_n 0, 1) := by decide +kernel
theorem dX6_tracer_56 : decode cX6_tracer 56 = .ok (.getfield 26, 3) := by decide +kernel
theorem dX6_tracer_59 : decode cX6_tracer 59 = .ok (.iload_n 1, 1) := by decide +kernel
theorem dX6_tracer_60 : decode cX6_tracer 60 = .ok (.invokevirtual 98, 3) := by decide +kernel
theorem dX6_tracer_63 : decode cX6_tracer 63 = .ok (.i2l, 1) := by decide +kernel
theorem dX6_tracer_64 : decode cX6_tracer 64 = .ok (.lreturn, 1) := by decide +kernel
theorem dX6_tracer_65 : decode cX6_tracer 65 = .ok (.ldc2_w 46, 3) := by decide +kernel
theorem dX6_tracer_68 : decode cX6_tracer 68 = .ok (.lreturn, 1) := by decide +kernel
theorem dX6_alike_0 : decode cX6_alike 0 = .ok (.aload_n 0, 1) := by decide +kernel
theorem dX6_alike_1 : decode cX6_alike 1 = .ok (.getfield 26, 3) := by decide +kernel
theorem dX6_alike_4 : decode cX6_alike 4 = .ok (.iload_n 1, 1) := by decide +kernel
theorem dX6_alike_5 : decode cX6_alike 5 = .ok (.invokevirtual 109, 3) := by decide +kernel
theorem dX6_alike_8 : decode cX6_alike 8 = .ok (.ifCond .ne 7, 3) := by decide +kernel
theorem dX6_alike_11 : decode cX6_alike 11 = .ok (.ldc2_w 89, 3) := by decide +kernel
theorem dX6_alike_14 : decode cX6_alike 14 = .ok (.lreturn, 1) := by decide +kernel
theorem dX6_alike_15 : decode cX6_alike 15 = .ok (.aload_n 0, 1) := by decide +kernel
theorem dX6_alike_16 : decode cX6_alike 16 = .ok (.getfield 26, 3) := by decide +kernel
theorem dX6_alike_19 : decode cX6_alike 19 = .ok (.iload_n 2, 1) := by decide +kernel
theorem dX6_alike_20 : decode cX6_alike 20 = .ok (.invokevirtual 137, 3) := by decide +kernel
theorem dX6_alike_23 : decode cX6_alike 23 = .ok (.ifCond .ne 7, 3) := by decide +kernel
theorem dX6_alike_26 : decode cX6_alike 26 = .ok (.ldc2_w 46, 3) := by decide +kernel
theorem dX6_alike_29 : decode cX6_alike 29 = .ok (.lreturn, 1) := by decide +kernel
theorem dX6_alike_30 : decode cX6_alike 30 = .ok (.aload_n 0, 1) := by decide +kernel
theorem dX6_alike_31 : decode cX6_alike 31 = .ok (.getfield 26, 3) := by decide +kernel
theorem dX6_alike_34 : decode cX6_alike 34 = .ok (.iload_n 1, 1) := by decide +kernel
theorem dX6_alike_35 : decode cX6_alike 35 = .ok (.iload_n 2, 1) := by decide +kernel
theorem dX6_alike_36 : decode cX6_alike 36 = .ok (.invokevirtual 140, 3) := by decide +kernel
theorem dX6_alike_39 : decode cX6_alike 39 = .ok (.i2l, 1) := by decide +kernel
theorem dX6_alike_40 : decode cX6_alike 40 = .ok (.lreturn, 1) := by decide +kernel
theorem dX6_best_0 : decode cX6_best 0 = .ok (.aload_n 0, 1) := by decide +kernel
theorem dX6_best_1 : decode cX6_best 1 = .ok (.getfield 26, 3) := by decide +kernel
theorem dX6_best_4 : decode cX6_best 4 = .ok (.getfield 82, 3) := by decide +kernel
theorem dX6_best_7 : decode cX6_best 7 = .ok (.ifCond .ne 7, 3) := by decide +kernel
theorem dX6_best_10 : decode cX6_best 10 = .ok (.ldc2_w 72, 3) := by decide +kernel
theorem dX6_best_13 : decode cX6_best 13 = .ok (.lreturn, 1) := by decide +kernel
theorem dX6_best_14 : decode cX6_best 14 = .ok (.aload_n 0, 1) := by decide +kernel
theorem dX6_best_15 : decode cX6_best 15 = .ok (.getfield 26, 3) := by decide +kernel
theorem dX6_best_18 : decode cX6_best 18 = .ok (.iload_n 1, 1) := by decide +kernel
theorem dX6_best_19 : decode cX6_best 19 = .ok (.invokevirtual 137, 3) := by decide +kernel
theorem dX6_best_22 : decode cX6_best 22 = .ok (.ifCond .eq 12, 3) := by decide +kernel
theorem dX6_best_25 : decode cX6_best 25 = .ok (.iload_n 2, 1) := by decide +kernel
theorem dX6_best_26 : decode cX6_best 26 = .ok (.ifCond .lt 8, 3) := by decide +kernel
theorem dX6_best_29 : decode cX6_best 29 = .ok (.iload_n 2, 1) := by decide +kernel
theorem dX6_best_30 : decode cX6_best 30 = .ok (.iconst 3, 1) := by decide +kernel
theorem dX6_best_31 : decode cX6_best 31 = .ok (.if_icmp .le 7, 3) := by decide +kernel
theorem dX6_best_34 : decode cX6_best 34 = .ok (.ldc2_w 46, 3) := by decide +kernel
theorem dX6_best_37 : decode cX6_best 37 = .ok (.lreturn, 1) := by decide +kernel
theorem dX6_best_38 : decode cX6_best 38 = .ok (.aload_n 0, 1) := by decide +kernel
theorem dX6_best_39 : decode cX6_best 39 = .ok (.getfield 35, 3) := by decide +kernel
theorem dX6_best_42 : decode cX6_best 42 = .ok (.iload_n 1, 1) := by decide +kernel
theorem dX6_best_43 : decode cX6_best 43 = .ok (.invokevirtual 143, 3) := by decide +kernel
theorem dX6_best_46 : decode cX6_best 46 = .ok (.aload_n 0, 1) := by decide +kernel
theorem dX6_best_47 : decode cX6_best 47 = .ok (.iload_n 2, 1) := by decide +kernel
theorem dX6_best_48 : decode cX6_best 48 = .ok (.invokevirtual 146, 3) := by decide +kernel
theorem dX6_best_51 : decode cX6_best 51 = .ok (.lreturn, 1) := by decide +kernel
theorem dX6_share_0 : decode cX6_share 0 = .ok (.aload_n 0, 1) := by decide +kernel
theorem dX6_share_1 : decode cX6_share 1 = .ok (.getfield 26, 3) := by decide +kernel
theorem dX6_share_4 : decode cX6_share 4 = .ok (.iload_n 1, 1) := by decide +kernel
theorem dX6_share_5 : decode cX6_share 5 = .ok (.invokevirtual 109, 3) := by decide +kernel
theorem dX6_share_8 : decode cX6_share 8 = .ok (.ifCond .ne 7, 3) := by decide +kernel
theorem dX6_share_11 : decode cX6_share 11 = .ok (.ldc2_w 89, 3) := by decide +kernel
theorem dX6_share_14 : decode cX6_share 14 = .ok (.lreturn, 1) := by decide +kernel
theorem dX6_share_15 : decode cX6_share 15 = .ok (.aload_n 0, 1) := by decide +kernel
theorem dX6_share_16 : decode cX6_share 16 = .ok (.getfield 26, 3) := by decide +kernel
theorem dX6_share_19 : decode cX6_share 19 = .ok (.iload_n 2, 1) := by decide +kernel
theorem dX6_share_20 : decode cX6_share 20 = .ok (.invokevirtual 137, 3) := by decide +kernel
theorem dX6_share_23 : decode cX6_share 23 = .ok (.ifCond .eq 10, 3) := by decide +kernel
theorem dX6_share_26 : decode cX6_share 26 = .ok (.iload_n 3, 1) := by decide +kernel
theorem dX6_share_27 : decode cX6_share 27 = .ok (.invokestatic 150, 3) := by decide +kernel
theorem dX6_share_30 : decode cX6_share 30 = .ok (.ifCond .ne 7, 3) := by decide +kernel
theorem dX6_share_33 : decode cX6_share 33 = .ok (.ldc2_w 46, 3) := by decide +kernel
theorem dX6_share_36 : decode cX6_share 36 = .ok (.lreturn, 1) := by decide +kernel
theorem dX6_share_37 : decode cX6_share 37 = .ok (.aload_n 0, 1) := by decide +kernel
theorem dX6_share_38 : decode cX6_share 38 = .ok (.getfield 35, 3) := by decide +kernel
theorem dX6_share_41 : decode cX6_share 41 = .ok (.iload_n 2, 1) := by decide +kernel
theorem dX6_share_42 : decode cX6_share 42 = .ok (.invokevirtual 143, 3) := by decide +kernel
theorem dX6_share_45 : decode cX6_share 45 = .ok (.aload_n 0, 1) := by decide +kernel
theorem dX6_share_46 : decode cX6_share 46 = .ok (.iload_n 1, 1) := by decide +kernel
theorem dX6_share_47 : decode cX6_share 47 = .ok (.iload_n 3, 1) := by decide +kernel
theorem dX6_share_48 : decode cX6_share 48 = .ok (.invokevirtual 153, 3) := by decide +kernel
theorem dX6_share_51 : decode cX6_share 51 = .ok (.lreturn, 1) := by decide +kernel
theorem dX6_press_0 : decode cX6_press 0 = .ok (.aload_n 0, 1) := by decide +kernel
theorem dX6_press_1 : decode cX6_press 1 = .ok (.getfield 26, 3) := by decide +kernel
theorem dX6_press_4 : decode cX6_press 4 = .ok (.iload_n 1, 1) := by decide +kernel
theorem dX6_press_5 : decode cX6_press 5 = .ok (.invokevirtual 109, 3) := by decide +kernel
theorem dX6_press_8 : decode cX6_press 8 = .ok (.ifCond .ne 7, 3) := by decide +kernel
theorem dX6_press_11 : decode cX6_press 11 = .ok (.ldc2_w 89, 3) := by decide +kernel
theorem dX6_press_14 : decode cX6_press 14 = .ok (.lreturn, 1) := by decide +kernel
theorem dX6_press_15 : decode cX6_press 15 = .ok (.aload_n 0, 1) := by decide +kernel
theorem dX6_press_16 : decode cX6_press 16 = .ok (.getfield 26, 3) := by decide +kernel
theorem dX6_press_19 : decode cX6_press 19 = .ok (.iload_n 2, 1) := by decide +kernel
theorem dX6_press_20 : decode cX6_press 20 = .ok (.invokevirtual 137, 3) := by decide +kernel
theorem dX6_press_23 : decode cX6_press 23 = .ok (.ifCond .eq 10, 3) := by decide +kernel
theorem dX6_press_26 : decode cX6_press 26 = .ok (.iload_n 3, 1) := by decide +kernel
theorem dX6_press_27 : decode cX6_press 27 = .ok (.invokestatic 150, 3) := by decide +kernel
theorem dX6_press_30 : decode cX6_press 30 = .ok (.ifCond .ne 7, 3) := by decide +kernel
theorem dX6_press_33 : decode cX6_press 33 = .ok (.ldc2_w 46, 3) := by decide +kernel
theorem dX6_press_36 : decode cX6_press 36 = .ok (.lreturn, 1) := by decide +kernel
theorem dX6_press_37 : decode cX6_press 37 = .ok (.aload_n 0, 1) := by decide +kernel
theorem dX6_press_38 : decode cX6_press 38 = .ok (.getfield 35, 3) := by decide +kernel
theorem dX6_press_41 : decode cX6_press 41 = .ok (.iload_n 2, 1) := by decide +kernel
theorem dX6_press_42 : decode cX6_press 42 = .ok (.invokevirtual 143, 3) := by decide +kernel
theorem dX6_press_45 : decode cX6_press 45 = .ok (.aload_n 0, 1) := by decide +kernel
theorem dX6_press_46 : decode cX6_press 46 = .ok (.iload_n 1, 1) := by decide +kernel
theorem dX6_press_47 : decode cX6_press 47 = .ok (.iload_n 3, 1) := by decide +kernel
theorem dX6_press_48 : decode cX6_press 48 = .ok (.invokevirtual 157, 3) := by decide +kernel
theorem dX6_press_51 : decode cX6_press 51 = .ok (.lreturn, 1) := by decide +kernel
theorem dX6_mixed_0 : decode cX6_mixed 0 = .ok (.aload_n 0, 1) := by decide +kernel
theorem dX6_mixed_1 : decode cX6_mixed 1 = .ok (.getfield 26, 3) := by decide +kernel
theorem dX6_mixed_4 : decode cX6_mixed 4 = .ok (.iload_n 1, 1) := by decide +kernel
theorem dX6_mixed_5 : decode cX6_mixed 5 = .ok (.invokevirtual 85, 3) := by decide +kernel
theorem dX6_mixed_8 : decode cX6_mixed 8 = .ok (.ifCond .ne 7, 3) := by decide +kernel
theorem dX6_mixed_11 : decode cX6_mixed 11 = .ok (.ldc2_w 89, 3) := by decide +kernel
theorem dX6_mixed_14 : decode cX6_mixed 14 = .ok (.lreturn, 1) := by decide +kernel
theorem dX6_mixed_15 : decode cX6_mixed 15 = .ok (.aload_n 0, 1) := by decide +kernel
theorem dX6_mixed_16 : decode cX6_mixed 16 = .ok (.getfield 26, 3) := by decide +kernel
theorem dX6_mixed_19 : decode cX6_mixed 19 = .ok (.iload_n 2, 1) := by decide +kernel
theorem dX6_mixed_20 : decode cX6_mixed 20 = .ok (.invokevirtual 137, 3) := by decide +kernel
theorem dX6_mixed_23 : decode cX6_mixed 23 = .ok (.ifCond .eq 10, 3) := by decide +kernel
theorem dX6_mixed_26 : decode cX6_mixed 26 = .ok (.iload_n 3, 1) := by decide +kernel
theorem dX6_mixed_27 : decode cX6_mixed 27 = .ok (.invokestatic 150, 3) := by decide +kernel
theorem dX6_mixed_30 : decode cX6_mixed 30 = .ok (.ifCond .ne 7, 3) := by decide +kernel
theorem dX6_mixed_33 : decode cX6_mixed 33 = .ok (.ldc2_w 46, 3) := by decide +kernel
theorem dX6_mixed_36 : decode cX6_mixed 36 = .ok (.lreturn, 1) := by decide +kernel
theorem dX6_mixed_37 : decode cX6_mixed 37 = .ok (.aload_n 0, 1) := by decide +kernel
theorem dX6_mixed_38 : decode cX6_mixed 38 = .ok (.getfield 35, 3) := by decide +kernel
theorem dX6_mixed_41 : decode cX6_mixed 41 = .ok (.iload_n 2, 1) := by decide +kernel
theorem dX6_mixed_42 : decode cX6_mixed 42 = .ok (.invokevirtual 143, 3) := by decide +kernel
theorem dX6_mixed_45 : decode cX6_mixed 45 = .ok (.aload_n 0, 1) := by decide +kernel
theorem dX6_mixed_46 : decode cX6_mixed 46 = .ok (.iload_n 1, 1) := by decide +kernel
theorem dX6_mixed_47 : decode cX6_mixed 47 = .ok (.iload_n 3, 1) := by decide +kernel
theorem dX6_mixed_48 : decode cX6_mixed 48 = .ok (.invokevirtual 160, 3) := by decide +kernel
theorem dX6_mixed_51 : decode cX6_mixed 51 = .ok (.lreturn, 1) := by decide +kernel
theorem dX6_corner_0 : decode cX6_corner 0 = .ok (.aload_n 0, 1) := by decide +kernel
theorem dX6_corner_1 : decode cX6_corner 1 = .ok (.getfield 26, 3) := by decide +kernel
theorem dX6_corner_4 : decode cX6_corner 4 = .ok (.getfield 82, 3) := by decide +kernel
theorem dX6_corner_7 : decode cX6_corner 7 = .ok (.ifCond .ne 7, 3) := by decide +kernel
theorem dX6_corner_10 : decode cX6_corner 10 = .ok (.ldc2_w 72, 3) := by decide +kernel
theorem dX6_corner_13 : decode cX6_corner 13 = .ok (.lreturn, 1) := by decide +kernel
theorem dX6_corner_14 : decode cX6_corner 14 = .ok (.aload_n 0, 1) := by decide +kernel
theorem dX6_corner_15 : decode cX6_corner 15 = .ok (.getfield 26, 3) := by decide +kernel
theorem dX6_corner_18 : decode cX6_corner 18 = .ok (.iload_n 1, 1) := by decide +kernel
theorem dX6_corner_19 : decode cX6_corner 19 = .ok (.invokevirtual 163, 3) := by decide +kernel
theorem dX6_corner_22 : decode cX6_corner 22 = .ok (.ifCond .eq 23, 3) := by decide +kernel
theorem dX6_corner_25 : decode cX6_corner 25 = .ok (.aload_n 0, 1) := by decide +kernel
theorem dX6_corner_26 : decode cX6_corner 26 = .ok (.getfield 26, 3) := by decide +kernel
theorem dX6_corner_29 : decode cX6_corner 29 = .ok (.iload_n 2, 1) := by decide +kernel
theorem dX6_corner_30 : decode cX6_corner 30 = .ok (.invokevirtual 137, 3) := by decide +kernel
theorem dX6_corner_33 : decode cX6_corner 33 = .ok (.ifCond .eq 12, 3) := by decide +kernel
theorem dX6_corner_36 : decode cX6_corner 36 = .ok (.iload_n 3, 1) := by decide +kernel
theorem dX6_corner_37 : decode cX6_corner 37 = .ok (.ifCond .lt 8, 3) := by decide +kernel
theorem dX6_corner_40 : decode cX6_corner 40 = .ok (.iload_n 3, 1) := by decide +kernel
theorem dX6_corner_41 : decode cX6_corner 41 = .ok (.iconst 2, 1) := by decide +kernel
theorem dX6_corner_42 : decode cX6_corner 42 = .ok (.if_icmp .le 7, 3) := by decide +kernel
theorem dX6_corner_45 : decode cX6_corner 45 = .ok (.ldc2_w 46, 3) := by decide +kernel
theorem dX6_corner_48 : decode cX6_corner 48 = .ok (.lreturn, 1) := by decide +kernel
theorem dX6_corner_49 : decode cX6_corner 49 = .ok (.aload_n 0, 1) := by decide +kernel
theorem dX6_corner_50 : decode cX6_corner 50 = .ok (.getfield 35, 3) := by decide +kernel
theorem dX6_corner_53 : decode cX6_corner 53 = .ok (.getfield 166, 3) := by decide +kernel
theorem dX6_corner_56 : decode cX6_corner 56 = .ok (.astore 4, 2) := by decide +kernel
theorem dX6_corner_58 : decode cX6_corner 58 = .ok (.aload 4, 2) := by decide +kernel
theorem dX6_corner_60 : decode cX6_corner 60 = .ok (.iload_n 2, 1) := by decide +kernel
theorem dX6_corner_61 : decode cX6_corner 61 = .ok (.invokevirtual 170, 3) := by decide +kernel
theorem dX6_corner_64 : decode cX6_corner 64 = .ok (.aload 4, 2) := by decide +kernel
theorem dX6_corner_66 : decode cX6_corner 66 = .ok (.iload_n 1, 1) := by decide +kernel
theorem dX6_corner_67 : decode cX6_corner 67 = .ok (.invokevirtual 175, 3) := by decide +kernel
theorem dX6_corner_70 : decode cX6_corner 70 = .ok (.iload_n 3, 1) := by decide +kernel
theorem dX6_corner_71 : decode cX6_corner 71 = .ok (.ifCond .ne 17, 3) := by decide +kernel
theorem dX6_corner_74 : decode cX6_corner 74 = .ok (.aload 4, 2) := by decide +kernel
theorem dX6_corner_76 : decode cX6_corner 76 = .ok (.invokevirtual 178, 3) := by decide +kernel
theorem dX6_corner_79 : decode cX6_corner 79 = .ok (.ifCond .eq 7, 3) := by decide +kernel
theorem dX6_corner_82 : decode cX6_corner 82 = .ok (.lconst 1, 1) := by decide +kernel
theorem dX6_corner_83 : decode cX6_corner 83 = .ok (.goto 4, 3) := by decide +kernel
theorem dX6_corner_86 : decode cX6_corner 86 = .ok (.lconst 0, 1) := by decide +kernel
theorem dX6_corner_87 : decode cX6_corner 87 = .ok (.lreturn, 1) := by decide +kernel
theorem dX6_corner_88 : decode cX6_corner 88 = .ok (.aload 4, 2) := by decide +kernel
theorem dX6_corner_90 : decode cX6_corner 90 = .ok (.invokevirtual 181, 3) := by decide +kernel
theorem dX6_corner_93 : decode cX6_corner 93 = .ok (.ifCond .eq 17, 3) := by decide +kernel
theorem dX6_corner_96 : decode cX6_corner 96 = .ok (.aload 4, 2) := by decide +kernel
theorem dX6_corner_98 : decode cX6_corner 98 = .ok (.getfield 184, 3) := by decide +kernel
theorem dX6_corner_101 : decode cX6_corner 101 = .ok (.iload_n 3, 1) := by decide +kernel
theorem dX6_corner_102 : decode cX6_corner 102 = .ok (.iconst 1, 1) := by decide +kernel
theorem dX6_corner_103 : decode cX6_corner 103 = .ok (.isub, 1) := by decide +kernel
theorem dX6_corner_104 : decode cX6_corner 104 = .ok (.invokevirtual 187, 3) := by decide +kernel
theorem dX6_corner_107 : decode cX6_corner 107 = .ok (.goto 6, 3) := by decide +kernel
theorem dX6_corner_110 : decode cX6_corner 110 = .ok (.ldc2_w 135, 3) := by decide +kernel
theorem dX6_corner_113 : decode cX6_corner 113 = .ok (.lreturn, 1) := by decide +kernel
theorem dX6_count_0 : decode cX6_count 0 = .ok (.iload_n 1, 1) := by decide +kernel
theorem dX6_count_1 : decode cX6_count 1 = .ok (.tableswitch 72 0 4 #[35, 44, 53, 62, 67], 35) := by decide +kernel
theorem dX6_count_36 : decode cX6_count 36 = .ok (.aload_n 0, 1) := by decide +kernel
theorem dX6_count_37 : decode cX6_count 37 = .ok (.getfield 26, 3) := by decide +kernel
theorem dX6_count_40 : decode cX6_count 40 = .ok (.getfield 82, 3) := by decide +kernel
theorem dX6_count_43 : decode cX6_count 43 = .ok (.i2l, 1) := by decide +kernel
theorem dX6_count_44 : decode cX6_count 44 = .ok (.lreturn, 1) := by decide +kernel
theorem dX6_count_45 : decode cX6_count 45 = .ok (.aload_n 0, 1) := by decide +kernel
theorem dX6_count_46 : decode cX6_count 46 = .ok (.getfield 26, 3) := by decide +kernel
theorem dX6_count_49 : decode cX6_count 49 = .ok (.getfield 190, 3) := by decide +kernel
theorem dX6_count_52 : decode cX6_count 52 = .ok (.i2l, 1) := by decide +kernel
theorem dX6_count_53 : decode cX6_count 53 = .ok (.lreturn, 1) := by decide +kernel
theorem dX6_count_54 : decode cX6_count 54 = .ok (.aload_n 0, 1) := by decide +kernel
theorem dX6_count_55 : decode cX6_count 55 = .ok (.getfield 12, 3) := by decide +kernel
theorem dX6_count_58 : decode cX6_count 58 = .ok (.getfield 58, 3) := by decide +kernel
theorem dX6_count_61 : decode cX6_count 61 = .ok (.i2l, 1) := by decide +kernel
theorem dX6_count_62 : decode cX6_count 62 = .ok (.lreturn, 1) := by decide +kernel
theorem dX6_count_63 : decode cX6_count 63 = .ok (.aload_n 0, 1) := by decide +kernel
theorem dX6_count_64 : decode cX6_count 64 = .ok (.getfield 78, 3) := by decide +kernel
theorem dX6_count_67 : decode cX6_count 67 = .ok (.lreturn, 1) := by decide +kernel
theorem dX6_count_68 : decode cX6_count 68 = .ok (.aload_n 0, 1) := by decide +kernel
theorem dX6_count_69 : decode cX6_count 69 = .ok (.getfield 106, 3) := by decide +kernel
theorem dX6_count_72 : decode cX6_count 72 = .ok (.lreturn, 1) := by decide +kernel
theorem dX6_count_73 : decode cX6_count 73 = .ok (.ldc2_w 46, 3) := by decide +kernel
theorem dX6_count_76 : decode cX6_count 76 = .ok (.lreturn, 1) := by decide +kernel
theorem dX6_digest_0 : decode cX6_digest 0 = .ok (.aload_n 0, 1) := by decide +kernel
theorem dX6_digest_1 : decode cX6_digest 1 = .ok (.ldc2_w 193, 3) := by decide +kernel
theorem dX6_digest_4 : decode cX6_digest 4 = .ok (.invokevirtual 195, 3) := by decide +kernel
theorem dX6_digest_7 : decode cX6_digest 7 = .ok (.lstore_n 1, 1) := by decide +kernel
theorem dX6_digest_8 : decode cX6_digest 8 = .ok (.aload_n 0, 1) := by decide +kernel
theorem dX6_digest_9 : decode cX6_digest 9 = .ok (.getfield 26, 3) := by decide +kernel
theorem dX6_digest_12 : decode cX6_digest 12 = .ok (.getfield 82, 3) := by decide +kernel
theorem dX6_digest_15 : decode cX6_digest 15 = .ok (.ifCond .le 64, 3) := by decide +kernel
theorem dX6_digest_18 : decode cX6_digest 18 = .ok (.aload_n 0, 1) := by decide +kernel
theorem dX6_digest_19 : decode cX6_digest 19 = .ok (.getfield 26, 3) := by decide +kernel
theorem dX6_digest_22 : decode cX6_digest 22 = .ok (.invokevirtual 199, 3) := by decide +kernel
theorem dX6_digest_25 : decode cX6_digest 25 = .ok (.istore_n 3, 1) := by decide +kernel
theorem dX6_digest_26 : decode cX6_digest 26 = .ok (.aload_n 0, 1) := by decide +kernel
theorem dX6_digest_27 : decode cX6_digest 27 = .ok (.lload_n 1, 1) := by decide +kernel
theorem dX6_digest_28 : decode cX6_digest 28 = .ok (.iload_n 3, 1) := by decide +kernel
theorem dX6_digest_29 : decode cX6_digest 29 = .ok (.invokevirtual 203, 3) := by decide +kernel
theorem dX6_digest_32 : decode cX6_digest 32 = .ok (.lstore_n 1, 1) := by decide +kernel
theorem dX6_digest_33 : decode cX6_digest 33 = .ok (.iconst 0, 1) := by decide +kernel
theorem dX6_digest_34 : decode cX6_digest 34 = .ok (.istore 4, 2) := by decide +kernel
theorem dX6_digest_36 : decode cX6_digest 36 = .ok (.iload 4, 2) := by decide +kernel
theorem dX6_digest_38 : decode cX6_digest 38 = .ok (.aload_n 0, 1) := by decide +kernel
theorem dX6_digest_39 : decode cX6_digest 39 = .ok (.getfield 26, 3) := by decide +kernel
theorem dX6_digest_42 : decode cX6_digest 42 = .ok (.getfield 190, 3) := by decide +kernel
theorem dX6_digest_45 : decode cX6_digest 45 = .ok (.if_icmp .ge 34, 3) := by decide +kernel
theorem dX6_digest_48 : decode cX6_digest 48 = .ok (.aload_n 0, 1) := by decide +kernel
theorem dX6_digest_49 : decode cX6_digest 49 = .ok (.getfield 26, 3) := by decide +kernel
theorem dX6_digest_52 : decode cX6_digest 52 = .ok (.getfield 190, 3) := by decide +kernel
theorem dX6_digest_55 : decode cX6_digest 55 = .ok (.iconst 1, 1) := by decide +kernel
theorem dX6_digest_56 : decode cX6_digest 56 = .ok (.if_icmp .le 23, 3) := by decide +kernel
theorem dX6_digest_59 : decode cX6_digest 59 = .ok (.aload_n 0, 1) := by decide +kernel
theorem dX6_digest_60 : decode cX6_digest 60 = .ok (.lload_n 1, 1) := by decide +kernel
theorem dX6_digest_61 : decode cX6_digest 61 = .ok (.iload_n 3, 1) := by decide +kernel
theorem dX6_digest_62 : decode cX6_digest 62 = .ok (.iconst 1, 1) := by decide +kernel
theorem dX6_digest_63 : decode cX6_digest 63 = .ok (.iload 4, 2) := by decide +kernel
theorem dX6_digest_65 : decode cX6_digest 65 = .ok (.ishl, 1) := by decide +kernel
theorem dX6_digest_66 : decode cX6_digest 66 = .ok (.iconst (-1), 1) := by decide +kernel
theorem dX6_digest_67 : decode cX6_digest 67 = .ok (.ixor, 1) := by decide +kernel
theorem dX6_digest_68 : decode cX6_digest 68 = .ok (.iand, 1) := by decide +kernel
theorem dX6_digest_69 : decode cX6_digest 69 = .ok (.invokevirtual 203, 3) := by decide +kernel
theorem dX6_digest_72 : decode cX6_digest 72 = .ok (.lstore_n 1, 1) := by decide +kernel
theorem dX6_digest_73 : decode cX6_digest 73 = .ok (.iinc 4 1, 3) := by decide +kernel
theorem dX6_digest_76 : decode cX6_digest 76 = .ok (.goto (-40), 3) := by decide +kernel
theorem dX6_digest_79 : decode cX6_digest 79 = .ok (.iconst 0, 1) := by decide +kernel
theorem dX6_digest_80 : decode cX6_digest 80 = .ok (.istore_n 3, 1) := by decide +kernel
theorem dX6_digest_81 : decode cX6_digest 81 = .ok (.iload_n 3, 1) := by decide +kernel
theorem dX6_digest_82 : decode cX6_digest 82 = .ok (.aload_n 0, 1) := by decide +kernel
theorem dX6_digest_83 : decode cX6_digest 83 = .ok (.getfield 12, 3) := by decide +kernel
theorem dX6_digest_86 : decode cX6_digest 86 = .ok (.getfield 58, 3) := by decide +kernel
theorem dX6_digest_89 : decode cX6_digest 89 = .ok (.if_icmp .ge 25, 3) := by decide +kernel
theorem dX6_digest_92 : decode cX6_digest 92 = .ok (.ldc2_w 207, 3) := by decide +kernel
theorem dX6_digest_95 : decode cX6_digest 95 = .ok (.lload_n 1, 1) := by decide +kernel
theorem dX6_digest_96 : decode cX6_digest 96 = .ok (.lmul, 1) := by decide +kernel
theorem dX6_digest_97 : decode cX6_digest 97 = .ok (.aload_n 0, 1) := by decide +kernel
theorem dX6_digest_98 : decode cX6_digest 98 = .ok (.getfield 12, 3) := by decide +kernel
theorem dX6_digest_101 : decode cX6_digest 101 = .ok (.iload_n 3, 1) := by decide +kernel
theorem dX6_digest_102 : decode cX6_digest 102 = .ok (.invokevirtual 209, 3) := by decide +kernel
theorem dX6_digest_105 : decode cX6_digest 105 = .ok (.i2l, 1) := by decide +kernel
theorem dX6_digest_106 : decode cX6_digest 106 = .ok (.ladd, 1) := by decide +kernel
theorem dX6_digest_107 : decode cX6_digest 107 = .ok (.lstore_n 1, 1) := by decide +kernel
theorem dX6_digest_108 : decode cX6_digest 108 = .ok (.iinc 3 1, 3) := by decide +kernel
theorem dX6_digest_111 : decode cX6_digest 111 = .ok (.goto (-30), 3) := by decide +kernel
theorem dX6_digest_114 : decode cX6_digest 114 = .ok (.iconst 0, 1) := by decide +kernel
theorem dX6_digest_115 : decode cX6_digest 115 = .ok (.istore_n 3, 1) := by decide +kernel
theorem dX6_digest_116 : decode cX6_digest 116 = .ok (.iload_n 3, 1) := by decide +kernel
theorem dX6_digest_117 : decode cX6_digest 117 = .ok (.iconst 4, 1) := by decide +kernel
theorem dX6_digest_118 : decode cX6_digest 118 = .ok (.if_icmp .gt 21, 3) := by decide +kernel
theorem dX6_digest_121 : decode cX6_digest 121 = .ok (.ldc2_w 207, 3) := by decide +kernel
theorem dX6_digest_124 : decode cX6_digest 124 = .ok (.lload_n 1, 1) := by decide +kernel
theorem dX6_digest_125 : decode cX6_digest 125 = .ok (.lmul, 1) := by decide +kernel
theorem dX6_digest_126 : decode cX6_digest 126 = .ok (.aload_n 0, 1) := by decide +kernel
theorem dX6_digest_127 : decode cX6_digest 127 = .ok (.iload_n 3, 1) := by decide +kernel
theorem dX6_digest_128 : decode cX6_digest 128 = .ok (.invokevirtual 212, 3) := by decide +kernel
theorem dX6_digest_131 : decode cX6_digest 131 = .ok (.ladd, 1) := by decide +kernel
theorem dX6_digest_132 : decode cX6_digest 132 = .ok (.lstore_n 1, 1) := by decide +kernel
theorem dX6_digest_133 : decode cX6_digest 133 = .ok (.iinc 3 1, 3) := by decide +kernel
theorem dX6_digest_136 : decode cX6_digest 136 = .ok (.goto (-20), 3) := by decide +kernel
theorem dX6_digest_139 : decode cX6_digest 139 = .ok (.lload_n 1, 1) := by decide +kernel
theorem dX6_digest_140 : decode cX6_digest 140 = .ok (.lreturn, 1) := by decide +kernel
theorem dX6_digestOfMud_0 : decode cX6_digestOfMud 0 = .ok (.lload_n 1, 1) := by decide +kernel
theorem dX6_digestOfMud_1 : decode cX6_digestOfMud 1 = .ok (.lstore_n 3, 1) := by decide +kernel
theorem dX6_digestOfMud_2 : decode cX6_digestOfMud 2 = .ok (.iconst 0, 1) := by decide +kernel
theorem dX6_digestOfMud_3 : decode cX6_digestOfMud 3 = .ok (.istore 5, 2) := by decide +kernel
theorem dX6_digestOfMud_5 : decode cX6_digestOfMud 5 = .ok (.iload 5, 2) := by decide +kernel
theorem dX6_digestOfMud_7 : decode cX6_digestOfMud 7 = .ok (.aload_n 0, 1) := by decide +kernel
theorem dX6_digestOfMud_8 : decode cX6_digestOfMud 8 = .ok (.getfield 26, 3) := by decide +kernel
theorem dX6_digestOfMud_11 : decode cX6_digestOfMud 11 = .ok (.getfield 82, 3) := by decide +kernel
theorem dX6_digestOfMud_14 : decode cX6_digestOfMud 14 = .ok (.if_icmp .ge 39, 3) := by decide +kernel
theorem dX6_digestOfMud_17 : decode cX6_digestOfMud 17 = .ok (.iconst 0, 1) := by decide +kernel
theorem dX6_digestOfMud_18 : decode cX6_digestOfMud 18 = .ok (.istore 6, 2) := by decide +kernel
theorem dX6_digestOfMud_20 : decode cX6_digestOfMud 20 = .ok (.iload 6, 2) := by decide +kernel
theorem dX6_digestOfMud_22 : decode cX6_digestOfMud 22 = .ok (.iconst 4, 1) := by decide +kernel
theorem dX6_digestOfMud_23 : decode cX6_digestOfMud 23 = .ok (.if_icmp .ge 24, 3) := by decide +kernel
theorem dX6_digestOfMud_26 : decode cX6_digestOfMud 26 = .ok (.ldc2_w 207, 3) := by decide +kernel
theorem dX6_digestOfMud_29 : decode cX6_digestOfMud 29 = .ok (.lload_n 3, 1) := by decide +kernel
theorem dX6_digestOfMud_30 : decode cX6_digestOfMud 30 = .ok (.lmul, 1) := by decide +kernel
theorem dX6_digestOfMud_31 : decode cX6_digestOfMud 31 = .ok (.aload_n 0, 1) := by decide +kernel
theorem dX6_digestOfMud_32 : decode cX6_digestOfMud 32 = .ok (.iload 5, 2) := by decide +kernel
theorem dX6_digestOfMud_34 : decode cX6_digestOfMud 34 = .ok (.iload 6, 2) := by decide +kernel
theorem dX6_digestOfMud_36 : decode cX6_digestOfMud 36 = .ok (.invokevirtual 215, 3) := by decide +kernel
theorem dX6_digestOfMud_39 : decode cX6_digestOfMud 39 = .ok (.ladd, 1) := by decide +kernel
theorem dX6_digestOfMud_40 : decode cX6_digestOfMud 40 = .ok (.lstore_n 3, 1) := by decide +kernel
theorem dX6_digestOfMud_41 : decode cX6_digestOfMud 41 = .ok (.iinc 6 1, 3) := by decide +kernel
theorem dX6_digestOfMud_44 : decode cX6_digestOfMud 44 = .ok (.goto (-24), 3) := by decide +kernel
theorem dX6_digestOfMud_47 : decode cX6_digestOfMud 47 = .ok (.iinc 5 1, 3) := by decide +kernel
theorem dX6_digestOfMud_50 : decode cX6_digestOfMud 50 = .ok (.goto (-45), 3) := by decide +kernel
theorem dX6_digestOfMud_53 : decode cX6_digestOfMud 53 = .ok (.iconst 0, 1) := by decide +kernel
theorem dX6_digestOfMud_54 : decode cX6_digestOfMud 54 = .ok (.istore 5, 2) := by decide +kernel
theorem dX6_digestOfMud_56 : decode cX6_digestOfMud 56 = .ok (.iload 5, 2) := by decide +kernel
theorem dX6_digestOfMud_58 : decode cX6_digestOfMud 58 = .ok (.aload_n 0, 1) := by decide +kernel
theorem dX6_digestOfMud_59 : decode cX6_digestOfMud 59 = .ok (.getfield 26, 3) := by decide +kernel
theorem dX6_digestOfMud_62 : decode cX6_digestOfMud 62 = .ok (.getfield 190, 3) := by decide +kernel
theorem dX6_digestOfMud_65 : decode cX6_digestOfMud 65 = .ok (.if_icmp .ge 37, 3) := by decide +kernel
theorem dX6_digestOfMud_68 : decode cX6_digestOfMud 68 = .ok (.ldc2_w 207, 3) := by decide +kernel
theorem dX6_digestOfMud_71 : decode cX6_digestOfMud 71 = .ok (.lload_n 3, 1) := by decide +kernel
theorem dX6_digestOfMud_72 : decode cX6_digestOfMud 72 = .ok (.lmul, 1) := by decide +kernel
theorem dX6_digestOfMud_73 : decode cX6_digestOfMud 73 = .ok (.aload_n 0, 1) := by decide +kernel
theorem dX6_digestOfMud_74 : decode cX6_digestOfMud 74 = .ok (.iload 5, 2) := by decide +kernel
theorem dX6_digestOfMud_76 : decode cX6_digestOfMud 76 = .ok (.iconst 0, 1) := by decide +kernel
theorem dX6_digestOfMud_77 : decode cX6_digestOfMud 77 = .ok (.invokevirtual 218, 3) := by decide +kernel
theorem dX6_digestOfMud_80 : decode cX6_digestOfMud 80 = .ok (.ladd, 1) := by decide +kernel
theorem dX6_digestOfMud_81 : decode cX6_digestOfMud 81 = .ok (.lstore_n 3, 1) := by decide +kernel
theorem dX6_digestOfMud_82 : decode cX6_digestOfMud 82 = .ok (.ldc2_w 207, 3) := by decide +kernel
theorem dX6_digestOfMud_85 : decode cX6_digestOfMud 85 = .ok (.lload_n 3, 1) := by decide +kernel
theorem dX6_digestOfMud_86 : decode cX6_digestOfMud 86 = .ok (.lmul, 1) := by decide +kernel
theorem dX6_digestOfMud_87 : decode cX6_digestOfMud 87 = .ok (.aload_n 0, 1) := by decide +kernel
theorem dX6_digestOfMud_88 : decode cX6_digestOfMud 88 = .ok (.iload 5, 2) := by decide +kernel
theorem dX6_digestOfMud_90 : decode cX6_digestOfMud 90 = .ok (.iconst 1, 1) := by decide +kernel
theorem dX6_digestOfMud_91 : decode cX6_digestOfMud 91 = .ok (.invokevirtual 218, 3) := by decide +kernel
theorem dX6_digestOfMud_94 : decode cX6_digestOfMud 94 = .ok (.ladd, 1) := by decide +kernel
theorem dX6_digestOfMud_95 : decode cX6_digestOfMud 95 = .ok (.lstore_n 3, 1) := by decide +kernel
theorem dX6_digestOfMud_96 : decode cX6_digestOfMud 96 = .ok (.iinc 5 1, 3) := by decide +kernel
theorem dX6_digestOfMud_99 : decode cX6_digestOfMud 99 = .ok (.goto (-43), 3) := by decide +kernel
theorem dX6_digestOfMud_102 : decode cX6_digestOfMud 102 = .ok (.lload_n 3, 1) := by decide +kernel
theorem dX6_digestOfMud_103 : decode cX6_digestOfMud 103 = .ok (.lreturn, 1) := by decide +kernel
theorem dX6_digestOfShares_0 : decode cX6_digestOfShares 0 = .ok (.aload_n 0, 1) := by decide +kernel
theorem dX6_digestOfShares_1 : decode cX6_digestOfShares 1 = .ok (.getfield 35, 3) := by decide +kernel
theorem dX6_digestOfShares_4 : decode cX6_digestOfShares 4 = .ok (.iload_n 3, 1) := by decide +kernel
theorem dX6_digestOfShares_5 : decode cX6_digestOfShares 5 = .ok (.invokevirtual 143, 3) := by decide +kernel
theorem dX6_digestOfShares_8 : decode cX6_digestOfShares 8 = .ok (.lload_n 1, 1) := by decide +kernel
theorem dX6_digestOfShares_9 : decode cX6_digestOfShares 9 = .ok (.lstore 4, 2) := by decide +kernel
theorem dX6_digestOfShares_11 : decode cX6_digestOfShares 11 = .ok (.iconst 0, 1) := by decide +kernel
theorem dX6_digestOfShares_12 : decode cX6_digestOfShares 12 = .ok (.istore 6, 2) := by decide +kernel
theorem dX6_digestOfShares_14 : decode cX6_digestOfShares 14 = .ok (.iload 6, 2) := by decide +kernel
theorem dX6_digestOfShares_16 : decode cX6_digestOfShares 16 = .ok (.iconst 3, 1) := by decide +kernel
theorem dX6_digestOfShares_17 : decode cX6_digestOfShares 17 = .ok (.if_icmp .gt 24, 3) := by decide +kernel
theorem dX6_digestOfShares_20 : decode cX6_digestOfShares 20 = .ok (.ldc2_w 207, 3) := by decide +kernel
theorem dX6_digestOfShares_23 : decode cX6_digestOfShares 23 = .ok (.lload 4, 2) := by decide +kernel
theorem dX6_digestOfShares_25 : decode cX6_digestOfShares 25 = .ok (.lmul, 1) := by decide +kernel
theorem dX6_digestOfShares_26 : decode cX6_digestOfShares 26 = .ok (.aload_n 0, 1) := by decide +kernel
theorem dX6_digestOfShares_27 : decode cX6_digestOfShares 27 = .ok (.iload 6, 2) := by decide +kernel
theorem dX6_digestOfShares_29 : decode cX6_digestOfShares 29 = .ok (.invokevirtual 146, 3) := by decide +kernel
theorem dX6_digestOfShares_32 : decode cX6_digestOfShares 32 = .ok (.ladd, 1) := by decide +kernel
theorem dX6_digestOfShares_33 : decode cX6_digestOfShares 33 = .ok (.lstore 4, 2) := by decide +kernel
theorem dX6_digestOfShares_35 : decode cX6_digestOfShares 35 = .ok (.iinc 6 1, 3) := by decide +kernel
theorem dX6_digestOfShares_38 : decode cX6_digestOfShares 38 = .ok (.goto (-24), 3) := by decide +kernel
theorem dX6_digestOfShares_41 : decode cX6_digestOfShares 41 = .ok (.iconst 0, 1) := by decide +kernel
theorem dX6_digestOfShares_42 : decode cX6_digestOfShares 42 = .ok (.istore 6, 2) := by decide +kernel
theorem dX6_digestOfShares_44 : decode cX6_digestOfShares 44 = .ok (.iload 6, 2) := by decide +kernel
theorem dX6_digestOfShares_46 : decode cX6_digestOfShares 46 = .ok (.aload_n 0, 1) := by decide +kernel
theorem dX6_digestOfShares_47 : decode cX6_digestOfShares 47 = .ok (.getfield 26, 3) := by decide +kernel
theorem dX6_digestOfShares_50 : decode cX6_digestOfShares 50 = .ok (.getfield 82, 3) := by decide +kernel
theorem dX6_digestOfShares_53 : decode cX6_digestOfShares 53 = .ok (.if_icmp .ge 93, 3) := by decide +kernel
theorem dX6_digestOfShares_56 : decode cX6_digestOfShares 56 = .ok (.ldc2_w 207, 3) := by decide +kernel
theorem dX6_digestOfShares_59 : decode cX6_digestOfShares 59 = .ok (.lload 4, 2) := by decide +kernel
theorem dX6_digestOfShares_61 : decode cX6_digestOfShares 61 = .ok (.lmul, 1) := by decide +kernel
theorem dX6_digestOfShares_62 : decode cX6_digestOfShares 62 = .ok (.aload_n 0, 1) := by decide +kernel
theorem dX6_digestOfShares_63 : decode cX6_digestOfShares 63 = .ok (.iload 6, 2) := by decide +kernel
theorem dX6_digestOfShares_65 : decode cX6_digestOfShares 65 = .ok (.iconst 0, 1) := by decide +kernel
theorem dX6_digestOfShares_66 : decode cX6_digestOfShares 66 = .ok (.invokevirtual 153, 3) := by decide +kernel
theorem dX6_digestOfShares_69 : decode cX6_digestOfShares 69 = .ok (.ladd, 1) := by decide +kernel
theorem dX6_digestOfShares_70 : decode cX6_digestOfShares 70 = .ok (.lstore 4, 2) := by decide +kernel
theorem dX6_digestOfShares_72 : decode cX6_digestOfShares 72 = .ok (.ldc2_w 207, 3) := by decide +kernel
theorem dX6_digestOfShares_75 : decode cX6_digestOfShares 75 = .ok (.lload 4, 2) := by decide +kernel
theorem dX6_digestOfShares_77 : decode cX6_digestOfShares 77 = .ok (.lmul, 1) := by decide +kernel
theorem dX6_digestOfShares_78 : decode cX6_digestOfShares 78 = .ok (.aload_n 0, 1) := by decide +kernel
theorem dX6_digestOfShares_79 : decode cX6_digestOfShares 79 = .ok (.iload 6, 2) := by decide +kernel
theorem dX6_digestOfShares_81 : decode cX6_digestOfShares 81 = .ok (.iconst 1, 1) := by decide +kernel
theorem dX6_digestOfShares_82 : decode cX6_digestOfShares 82 = .ok (.invokevirtual 153, 3) := by decide +kernel
theorem dX6_digestOfShares_85 : decode cX6_digestOfShares 85 = .ok (.ladd, 1) := by decide +kernel
theorem dX6_digestOfShares_86 : decode cX6_digestOfShares 86 = .ok (.lstore 4, 2) := by decide +kernel
theorem dX6_digestOfShares_88 : decode cX6_digestOfShares 88 = .ok (.ldc2_w 207, 3) := by decide +kernel
theorem dX6_digestOfShares_91 : decode cX6_digestOfShares 91 = .ok (.lload 4, 2) := by decide +kernel
theorem dX6_digestOfShares_93 : decode cX6_digestOfShares 93 = .ok (.lmul, 1) := by decide +kernel
theorem dX6_digestOfShares_94 : decode cX6_digestOfShares 94 = .ok (.aload_n 0, 1) := by decide +kernel
theorem dX6_digestOfShares_95 : decode cX6_digestOfShares 95 = .ok (.iload 6, 2) := by decide +kernel
theorem dX6_digestOfShares_97 : decode cX6_digestOfShares 97 = .ok (.iconst 0, 1) := by decide +kernel
theorem dX6_digestOfShares_98 : decode cX6_digestOfShares 98 = .ok (.invokevirtual 157, 3) := by decide +kernel
theorem dX6_digestOfShares_101 : decode cX6_digestOfShares 101 = .ok (.ladd, 1) := by decide +kernel
theorem dX6_digestOfShares_102 : decode cX6_digestOfShares 102 = .ok (.lstore 4, 2) := by decide +kernel
theorem dX6_digestOfShares_104 : decode cX6_digestOfShares 104 = .ok (.ldc2_w 207, 3) := by decide +kernel
theorem dX6_digestOfShares_107 : decode cX6_digestOfShares 107 = .ok (.lload 4, 2) := by decide +kernel
theorem dX6_digestOfShares_109 : decode cX6_digestOfShares 109 = .ok (.lmul, 1) := by decide +kernel
theorem dX6_digestOfShares_110 : decode cX6_digestOfShares 110 = .ok (.aload_n 0, 1) := by decide +kernel
theorem dX6_digestOfShares_111 : decode cX6_digestOfShares 111 = .ok (.iload 6, 2) := by decide +kernel
theorem dX6_digestOfShares_113 : decode cX6_digestOfShares 113 = .ok (.iconst 1, 1) := by decide +kernel
theorem dX6_digestOfShares_114 : decode cX6_digestOfShares 114 = .ok (.invokevirtual 157, 3) := by decide +kernel
theorem dX6_digestOfShares_117 : decode cX6_digestOfShares 117 = .ok (.ladd, 1) := by decide +kernel
theorem dX6_digestOfShares_118 : decode cX6_digestOfShares 118 = .ok (.lstore 4, 2) := by decide +kernel
theorem dX6_digestOfShares_120 : decode cX6_digestOfShares 120 = .ok (.ldc2_w 207, 3) := by decide +kernel
theorem dX6_digestOfShares_123 : decode cX6_digestOfShares 123 = .ok (.lload 4, 2) := by decide +kernel
theorem dX6_digestOfShares_125 : decode cX6_digestOfShares 125 = .ok (.lmul, 1) := by decide +kernel
theorem dX6_digestOfShares_126 : decode cX6_digestOfShares 126 = .ok (.aload_n 0, 1) := by decide +kernel
theorem dX6_digestOfShares_127 : decode cX6_digestOfShares 127 = .ok (.getfield 26, 3) := by decide +kernel
theorem dX6_digestOfShares_130 : decode cX6_digestOfShares 130 = .ok (.iload 6, 2) := by decide +kernel
theorem dX6_digestOfShares_132 : decode cX6_digestOfShares 132 = .ok (.iload_n 3, 1) := by decide +kernel
theorem dX6_digestOfShares_133 : decode cX6_digestOfShares 133 = .ok (.invokevirtual 140, 3) := by decide +kernel
theorem dX6_digestOfShares_136 : decode cX6_digestOfShares 136 = .ok (.i2l, 1) := by decide +kernel
theorem dX6_digestOfShares_137 : decode cX6_digestOfShares 137 = .ok (.ladd, 1) := by decide +kernel
theorem dX6_digestOfShares_138 : decode cX6_digestOfShares 138 = .ok (.lstore 4, 2) := by decide +kernel
theorem dX6_digestOfShares_140 : decode cX6_digestOfShares 140 = .ok (.iinc 6 1, 3) := by decide +kernel
theorem dX6_digestOfShares_143 : decode cX6_digestOfShares 143 = .ok (.goto (-99), 3) := by decide +kernel
theorem dX6_digestOfShares_146 : decode cX6_digestOfShares 146 = .ok (.iconst 0, 1) := by decide +kernel
theorem dX6_digestOfShares_147 : decode cX6_digestOfShares 147 = .ok (.istore 6, 2) := by decide +kernel
theorem dX6_digestOfShares_149 : decode cX6_digestOfShares 149 = .ok (.iload 6, 2) := by decide +kernel
theorem dX6_digestOfShares_151 : decode cX6_digestOfShares 151 = .ok (.aload_n 0, 1) := by decide +kernel
theorem dX6_digestOfShares_152 : decode cX6_digestOfShares 152 = .ok (.getfield 26, 3) := by decide +kernel
theorem dX6_digestOfShares_155 : decode cX6_digestOfShares 155 = .ok (.getfield 190, 3) := by decide +kernel
theorem dX6_digestOfShares_158 : decode cX6_digestOfShares 158 = .ok (.if_icmp .ge 41, 3) := by decide +kernel
theorem dX6_digestOfShares_161 : decode cX6_digestOfShares 161 = .ok (.ldc2_w 207, 3) := by decide +kernel
theorem dX6_digestOfShares_164 : decode cX6_digestOfShares 164 = .ok (.lload 4, 2) := by decide +kernel
theorem dX6_digestOfShares_166 : decode cX6_digestOfShares 166 = .ok (.lmul, 1) := by decide +kernel
theorem dX6_digestOfShares_167 : decode cX6_digestOfShares 167 = .ok (.aload_n 0, 1) := by decide +kernel
theorem dX6_digestOfShares_168 : decode cX6_digestOfShares 168 = .ok (.iload 6, 2) := by decide +kernel
theorem dX6_digestOfShares_170 : decode cX6_digestOfShares 170 = .ok (.iconst 0, 1) := by decide +kernel
theorem dX6_digestOfShares_171 : decode cX6_digestOfShares 171 = .ok (.invokevirtual 160, 3) := by decide +kernel
theorem dX6_digestOfShares_174 : decode cX6_digestOfShares 174 = .ok (.ladd, 1) := by decide +kernel
theorem dX6_digestOfShares_175 : decode cX6_digestOfShares 175 = .ok (.lstore 4, 2) := by decide +kernel
theorem dX6_digestOfShares_177 : decode cX6_digestOfShares 177 = .ok (.ldc2_w 207, 3) := by decide +kernel
theorem dX6_digestOfShares_180 : decode cX6_digestOfShares 180 = .ok (.lload 4, 2) := by decide +kernel
theorem dX6_digestOfShares_182 : decode cX6_digestOfShares 182 = .ok (.lmul, 1) := by decide +kernel
theorem dX6_digestOfShares_183 : decode cX6_digestOfShares 183 = .ok (.aload_n 0, 1) := by decide +kernel
theorem dX6_digestOfShares_184 : decode cX6_digestOfShares 184 = .ok (.iload 6, 2) := by decide +kernel
theorem dX6_digestOfShares_186 : decode cX6_digestOfShares 186 = .ok (.iconst 1, 1) := by decide +kernel
theorem dX6_digestOfShares_187 : decode cX6_digestOfShares 187 = .ok (.invokevirtual 160, 3) := by decide +kernel
theorem dX6_digestOfShares_190 : decode cX6_digestOfShares 190 = .ok (.ladd, 1) := by decide +kernel
theorem dX6_digestOfShares_191 : decode cX6_digestOfShares 191 = .ok (.lstore 4, 2) := by decide +kernel
theorem dX6_digestOfShares_193 : decode cX6_digestOfShares 193 = .ok (.iinc 6 1, 3) := by decide +kernel
theorem dX6_digestOfShares_196 : decode cX6_digestOfShares 196 = .ok (.goto (-47), 3) := by decide +kernel
theorem dX6_digestOfShares_199 : decode cX6_digestOfShares 199 = .ok (.lload 4, 2) := by decide +kernel
theorem dX6_digestOfShares_201 : decode cX6_digestOfShares 201 = .ok (.lreturn, 1) := by decide +kernel
theorem dX6_ofNearest_0 : decode cX6_ofNearest 0 = .ok (.iload_n 1, 1) := by decide +kernel
theorem dX6_ofNearest_1 : decode cX6_ofNearest 1 = .ok (.tableswitch 58 0 2 #[27, 36, 47], 27) := by decide +kernel
theorem dX6_ofNearest_28 : decode cX6_ofNearest 28 = .ok (.aload_n 0, 1) := by decide +kernel
theorem dX6_ofNearest_29 : decode cX6_ofNearest 29 = .ok (.getfield 35, 3) := by decide +kernel
theorem dX6_ofNearest_32 : decode cX6_ofNearest 32 = .ok (.getfield 221, 3) := by decide +kernel
theorem dX6_ofNearest_35 : decode cX6_ofNearest 35 = .ok (.i2l, 1) := by decide +kernel
theorem dX6_ofNearest_36 : decode cX6_ofNearest 36 = .ok (.lreturn, 1) := by decide +kernel
theorem dX6_ofNearest_37 : decode cX6_ofNearest 37 = .ok (.aload_n 0, 1) := by decide +kernel
theorem dX6_ofNearest_38 : decode cX6_ofNearest 38 = .ok (.getfield 35, 3) := by decide +kernel
theorem dX6_ofNearest_41 : decode cX6_ofNearest 41 = .ok (.getfield 224, 3) := by decide +kernel
theorem dX6_ofNearest_44 : decode cX6_ofNearest 44 = .ok (.getfield 225, 3) := by decide +kernel
theorem dX6_ofNearest_47 : decode cX6_ofNearest 47 = .ok (.lreturn, 1) := by decide +kernel
theorem dX6_ofNearest_48 : decode cX6_ofNearest 48 = .ok (.aload_n 0, 1) := by decide +kernel
theorem dX6_ofNearest_49 : decode cX6_ofNearest 49 = .ok (.getfield 35, 3) := by decide +kernel
theorem dX6_ofNearest_52 : decode cX6_ofNearest 52 = .ok (.getfield 224, 3) := by decide +kernel
theorem dX6_ofNearest_55 : decode cX6_ofNearest 55 = .ok (.getfield 228, 3) := by decide +kernel
theorem dX6_ofNearest_58 : decode cX6_ofNearest 58 = .ok (.lreturn, 1) := by decide +kernel
theorem dX6_ofNearest_59 : decode cX6_ofNearest 59 = .ok (.aload_n 0, 1) := by decide +kernel
theorem dX6_ofNearest_60 : decode cX6_ofNearest 60 = .ok (.getfield 35, 3) := by decide +kernel
theorem dX6_ofNearest_63 : decode cX6_ofNearest 63 = .ok (.getfield 231, 3) := by decide +kernel
theorem dX6_ofNearest_66 : decode cX6_ofNearest 66 = .ok (.i2l, 1) := by decide +kernel
theorem dX6_ofNearest_67 : decode cX6_ofNearest 67 = .ok (.lreturn, 1) := by decide +kernel
theorem dX6_shareByNearest_0 : decode cX6_shareByNearest 0 = .ok (.aload_n 0, 1) := by decide +kernel
theorem dX6_shareByNearest_1 : decode cX6_shareByNearest 1 = .ok (.getfield 35, 3) := by decide +kernel
theorem dX6_shareByNearest_4 : decode cX6_shareByNearest 4 = .ok (.getfield 166, 3) := by decide +kernel
theorem dX6_shareByNearest_7 : decode cX6_shareByNearest 7 = .ok (.astore_n 3, 1) := by decide +kernel
theorem dX6_shareByNearest_8 : decode cX6_shareByNearest 8 = .ok (.aload_n 0, 1) := by decide +kernel
theorem dX6_shareByNearest_9 : decode cX6_shareByNearest 9 = .ok (.getfield 42, 3) := by decide +kernel
theorem dX6_shareByNearest_12 : decode cX6_shareByNearest 12 = .ok (.aload_n 3, 1) := by decide +kernel
theorem dX6_shareByNearest_13 : decode cX6_shareByNearest 13 = .ok (.iload_n 1, 1) := by decide +kernel
theorem dX6_shareByNearest_14 : decode cX6_shareByNearest 14 = .ok (.invokevirtual 234, 3) := by decide +kernel
theorem dX6_shareByNearest_17 : decode cX6_shareByNearest 17 = .ok (.aload_n 3, 1) := by decide +kernel
theorem dX6_shareByNearest_18 : decode cX6_shareByNearest 18 = .ok (.getfield 237, 3) := by decide +kernel
theorem dX6_shareByNearest_21 : decode cX6_shareByNearest 21 = .ok (.invokevirtual 238, 3) := by decide +kernel
theorem dX6_shareByNearest_24 : decode cX6_shareByNearest 24 = .ok (.aload_n 0, 1) := by decide +kernel
theorem dX6_shareByNearest_25 : decode cX6_shareByNearest 25 = .ok (.getfield 42, 3) := by decide +kernel
theorem dX6_shareByNearest_28 : decode cX6_shareByNearest 28 = .ok (.iload_n 2, 1) := by decide +kernel
theorem dX6_shareByNearest_29 : decode cX6_shareByNearest 29 = .ok (.invokevirtual 187, 3) := by decide +kernel
theorem dX6_shareByNearest_32 : decode cX6_shareByNearest 32 = .ok (.lreturn, 1) := by decide +kernel
theorem dX6_pressByNearest_0 : decode cX6_pressByNearest 0 = .ok (.aload_n 0, 1) := by decide +kernel
theorem dX6_pressByNearest_1 : decode cX6_pressByNearest 1 = .ok (.getfield 35, 3) := by decide +kernel
theorem dX6_pressByNearest_4 : decode cX6_pressByNearest 4 = .ok (.getfield 166, 3) := by decide +kernel
theorem dX6_pressByNearest_7 : decode cX6_pressByNearest 7 = .ok (.astore_n 3, 1) := by decide +kernel
theorem dX6_pressByNearest_8 : decode cX6_pressByNearest 8 = .ok (.aload_n 0, 1) := by decide +kernel
theorem dX6_pressByNearest_9 : decode cX6_pressByNearest 9 = .ok (.getfield 42, 3) := by decide +kernel
theorem dX6_pressByNearest_12 : decode cX6_pressByNearest 12 = .ok (.aload_n 3, 1) := by decide +kernel
theorem dX6_pressByNearest_13 : decode cX6_pressByNearest 13 = .ok (.iload_n 1, 1) := by decide +kernel
theorem dX6_pressByNearest_14 : decode cX6_pressByNearest 14 = .ok (.invokevirtual 242, 3) := by decide +kernel
theorem dX6_pressByNearest_17 : decode cX6_pressByNearest 17 = .ok (.aload_n 3, 1) := by decide +kernel
theorem dX6_pressByNearest_18 : decode cX6_pressByNearest 18 = .ok (.getfield 237, 3) := by decide +kernel
theorem dX6_pressByNearest_21 : decode cX6_pressByNearest 21 = .ok (.invokevirtual 238, 3) := by decide +kernel
theorem dX6_pressByNearest_24 : decode cX6_pressByNearest 24 = .ok (.aload_n 0, 1) := by decide +kernel
theorem dX6_pressByNearest_25 : decode cX6_pressByNearest 25 = .ok (.getfield 42, 3) := by decide +kernel
theorem dX6_pressByNearest_28 : decode cX6_pressByNearest 28 = .ok (.iload_n 2, 1) := by decide +kernel
theorem dX6_pressByNearest_29 : decode cX6_pressByNearest 29 = .ok (.invokevirtual 187, 3) := by decide +kernel
theorem dX6_pressByNearest_32 : decode cX6_pressByNearest 32 = .ok (.lreturn, 1) := by decide +kernel
theorem dX6_mixedByNearest_0 : decode cX6_mixedByNearest 0 = .ok (.aload_n 0, 1) := by decide +kernel
theorem dX6_mixedByNearest_1 : decode cX6_mixedByNearest 1 = .ok (.getfield 35, 3) := by decide +kernel
theorem dX6_mixedByNearest_4 : decode cX6_mixedByNearest 4 = .ok (.getfield 166, 3) := by decide +kernel
theorem dX6_mixedByNearest_7 : decode cX6_mixedByNearest 7 = .ok (.astore_n 3, 1) := by decide +kernel
theorem dX6_mixedByNearest_8 : decode cX6_mixedByNearest 8 = .ok (.aload_n 0, 1) := by decide +kernel
theorem dX6_mixedByNearest_9 : decode cX6_mixedByNearest 9 = .ok (.getfield 42, 3) := by decide +kernel
theorem dX6_mixedByNearest_12 : decode cX6_mixedByNearest 12 = .ok (.aload_n 3, 1) := by decide +kernel
theorem dX6_mixedByNearest_13 : decode cX6_mixedByNearest 13 = .ok (.iload_n 1, 1) := by decide +kernel
theorem dX6_mixedByNearest_14 : decode cX6_mixedByNearest 14 = .ok (.invokevirtual 245, 3) := by decide +kernel
theorem dX6_mixedByNearest_17 : decode cX6_mixedByNearest 17 = .ok (.aload_n 3, 1) := by decide +kernel
theorem dX6_mixedByNearest_18 : decode cX6_mixedByNearest 18 = .ok (.getfield 237, 3) := by decide +kernel
theorem dX6_mixedByNearest_21 : decode cX6_mixedByNearest 21 = .ok (.invokevirtual 238, 3) := by decide +kernel
theorem dX6_mixedByNearest_24 : decode cX6_mixedByNearest 24 = .ok (.aload_n 0, 1) := by decide +kernel
theorem dX6_mixedByNearest_25 : decode cX6_mixedByNearest 25 = .ok (.getfield 42, 3) := by decide +kernel
theorem dX6_mixedByNearest_28 : decode cX6_mixedByNearest 28 = .ok (.iload_n 2, 1) := by decide +kernel
theorem dX6_mixedByNearest_29 : decode cX6_mixedByNearest 29 = .ok (.invokevirtual 187, 3) := by decide +kernel
theorem dX6_mixedByNearest_32 : decode cX6_mixedByNearest 32 = .ok (.lreturn, 1) := by decide +kernel
theorem dX6_putHeld_0 : decode cX6_putHeld 0 = .ok (.aload_n 0, 1) := by decide +kernel
theorem dX6_putHeld_1 : decode cX6_putHeld 1 = .ok (.getfield 26, 3) := by decide +kernel
theorem dX6_putHeld_4 : decode cX6_putHeld 4 = .ok (.iload_n 1, 1) := by decide +kernel
theorem dX6_putHeld_5 : decode cX6_putHeld 5 = .ok (.iload_n 2, 1) := by decide +kernel
theorem dX6_putHeld_6 : decode cX6_putHeld 6 = .ok (.invokevirtual 132, 3) := by decide +kernel
theorem dX6_putHeld_9 : decode cX6_putHeld 9 = .ok (.i2l, 1) := by decide +kernel
theorem dX6_putHeld_10 : decode cX6_putHeld 10 = .ok (.lstore 4, 2) := by decide +kernel
theorem dX6_putHeld_12 : decode cX6_putHeld 12 = .ok (.aload_n 0, 1) := by decide +kernel
theorem dX6_putHeld_13 : decode cX6_putHeld 13 = .ok (.getfield 26, 3) := by decide +kernel
theorem dX6_putHeld_16 : decode cX6_putHeld 16 = .ok (.iload_n 1, 1) := by decide +kernel
theorem dX6_putHeld_17 : decode cX6_putHeld 17 = .ok (.iload_n 2, 1) := by decide +kernel
theorem dX6_putHeld_18 : decode cX6_putHeld 18 = .ok (.iload_n 3, 1) := by decide +kernel
theorem dX6_putHeld_19 : decode cX6_putHeld 19 = .ok (.invokevirtual 129, 3) := by decide +kernel
theorem dX6_putHeld_22 : decode cX6_putHeld 22 = .ok (.aload_n 0, 1) := by decide +kernel
theorem dX6_putHeld_23 : decode cX6_putHeld 23 = .ok (.dup, 1) := by decide +kernel
theorem dX6_putHeld_24 : decode cX6_putHeld 24 = .ok (.getfield 106, 3) := by decide +kernel
theorem dX6_putHeld_27 : decode cX6_putHeld 27 = .ok (.lconst 1, 1) := by decide +kernel
theorem dX6_putHeld_28 : decode cX6_putHeld 28 = .ok (.ladd, 1) := by decide +kernel
theorem dX6_putHeld_29 : decode cX6_putHeld 29 = .ok (.putfield 106, 3) := by decide +kernel
theorem dX6_putHeld_32 : decode cX6_putHeld 32 = .ok (.lload 4, 2) := by decide +kernel
theorem dX6_putHeld_34 : decode cX6_putHeld 34 = .ok (.lreturn, 1) := by decide +kernel
theorem dX6_isHeld_0 : decode cX6_isHeld 0 = .ok (.iload_n 0, 1) := by decide +kernel
theorem dX6_isHeld_1 : decode cX6_isHeld 1 = .ok (.ifCond .lt 13, 3) := by decide +kernel
theorem dX6_isHeld_4 : decode cX6_isHeld 4 = .ok (.iload_n 0, 1) := by decide +kernel
theorem dX6_isHeld_5 : decode cX6_isHeld 5 = .ok (.bipush 20, 2) := by decide +kernel
theorem dX6_isHeld_7 : decode cX6_isHeld 7 = .ok (.if_icmp .gt 7, 3) := by decide +kernel
theorem dX6_isHeld_10 : decode cX6_isHeld 10 = .ok (.iconst 1, 1) := by decide +kernel
theorem dX6_isHeld_11 : decode cX6_isHeld 11 = .ok (.goto 4, 3) := by decide +kernel
theorem dX6_isHeld_14 : decode cX6_isHeld 14 = .ok (.iconst 0, 1) := by decide +kernel
theorem dX6_isHeld_15 : decode cX6_isHeld 15 = .ok (.ireturn, 1) := by decide +kernel
theorem dX6_isPart_0 : decode cX6_isPart 0 = .ok (.iload_n 0, 1) := by decide +kernel
theorem dX6_isPart_1 : decode cX6_isPart 1 = .ok (.ifCond .eq 8, 3) := by decide +kernel
theorem dX6_isPart_4 : decode cX6_isPart 4 = .ok (.iload_n 0, 1) := by decide +kernel
theorem dX6_isPart_5 : decode cX6_isPart 5 = .ok (.iconst 1, 1) := by decide +kernel
theorem dX6_isPart_6 : decode cX6_isPart 6 = .ok (.if_icmp .ne 7, 3) := by decide +kernel
theorem dX6_isPart_9 : decode cX6_isPart 9 = .ok (.iconst 1, 1) := by decide +kernel
theorem dX6_isPart_10 : decode cX6_isPart 10 = .ok (.goto 4, 3) := by decide +kernel
theorem dX6_isPart_13 : decode cX6_isPart 13 = .ok (.iconst 0, 1) := by decide +kernel
theorem dX6_isPart_14 : decode cX6_isPart 14 = .ok (.ireturn, 1) := by decide +kernel
theorem dX6_isMultiple_0 : decode cX6_isMultiple 0 = .ok (.iload_n 1, 1) := by decide +kernel
theorem dX6_isMultiple_1 : decode cX6_isMultiple 1 = .ok (.ifCond .le 13, 3) := by decide +kernel
theorem dX6_isMultiple_4 : decode cX6_isMultiple 4 = .ok (.iload_n 0, 1) := by decide +kernel
theorem dX6_isMultiple_5 : decode cX6_isMultiple 5 = .ok (.iload_n 1, 1) := by decide +kernel
theorem dX6_isMultiple_6 : decode cX6_isMultiple 6 = .ok (.irem, 1) := by decide +kernel
theorem dX6_isMultiple_7 : decode cX6_isMultiple 7 = .ok (.ifCond .ne 7, 3) := by decide +kernel
theorem dX6_isMultiple_10 : decode cX6_isMultiple 10 = .ok (.iconst 1, 1) := by decide +kernel
theorem dX6_isMultiple_11 : decode cX6_isMultiple 11 = .ok (.goto 4, 3) := by decide +kernel
theorem dX6_isMultiple_14 : decode cX6_isMultiple 14 = .ok (.iconst 0, 1) := by decide +kernel
theorem dX6_isMultiple_15 : decode cX6_isMultiple 15 = .ok (.ireturn, 1) := by decide +kernel
theorem dX6_quotient_0 : decode cX6_quotient 0 = .ok (.iload_n 1, 1) := by decide +kernel
theorem dX6_quotient_1 : decode cX6_quotient 1 = .ok (.ifCond .le 9, 3) := by decide +kernel
theorem dX6_quotient_4 : decode cX6_quotient 4 = .ok (.iload_n 0, 1) := by decide +kernel
theorem dX6_quotient_5 : decode cX6_quotient 5 = .ok (.iload_n 1, 1) := by decide +kernel
theorem dX6_quotient_6 : decode cX6_quotient 6 = .ok (.idiv, 1) := by decide +kernel
theorem dX6_quotient_7 : decode cX6_quotient 7 = .ok (.goto 4, 3) := by decide +kernel
theorem dX6_quotient_10 : decode cX6_quotient 10 = .ok (.iconst 0, 1) := by decide +kernel
theorem dX6_quotient_11 : decode cX6_quotient 11 = .ok (.ireturn, 1) := by decide +kernel
theorem dX6_isIn_0 : decode cX6_isIn 0 = .ok (.iload_n 0, 1) := by decide +kernel
theorem dX6_isIn_1 : decode cX6_isIn 1 = .ok (.iload_n 1, 1) := by decide +kernel
theorem dX6_isIn_2 : decode cX6_isIn 2 = .ok (.ishr, 1) := by decide +kernel
theorem dX6_isIn_3 : decode cX6_isIn 3 = .ok (.iconst 1, 1) := by decide +kernel
theorem dX6_isIn_4 : decode cX6_isIn 4 = .ok (.iand, 1) := by decide +kernel
theorem dX6_isIn_5 : decode cX6_isIn 5 = .ok (.iconst 1, 1) := by decide +kernel
theorem dX6_isIn_6 : decode cX6_isIn 6 = .ok (.if_icmp .ne 7, 3) := by decide +kernel
theorem dX6_isIn_9 : decode cX6_isIn 9 = .ok (.iconst 1, 1) := by decide +kernel
theorem dX6_isIn_10 : decode cX6_isIn 10 = .ok (.goto 4, 3) := by decide +kernel
theorem dX6_isIn_13 : decode cX6_isIn 13 = .ok (.iconst 0, 1) := by decide +kernel
theorem dX6_isIn_14 : decode cX6_isIn 14 = .ok (.ireturn, 1) := by decide +kernel
theorem dX6_powerOfTen_0 : decode cX6_powerOfTen 0 = .ok (.iconst 1, 1) := by decide +kernel
theorem dX6_powerOfTen_1 : decode cX6_powerOfTen 1 = .ok (.istore_n 1, 1) := by decide +kernel
theorem dX6_powerOfTen_2 : decode cX6_powerOfTen 2 = .ok (.iconst 0, 1) := by decide +kernel
theorem dX6_powerOfTen_3 : decode cX6_powerOfTen 3 = .ok (.istore_n 2, 1) := by decide +kernel
theorem dX6_powerOfTen_4 : decode cX6_powerOfTen 4 = .ok (.iload_n 2, 1) := by decide +kernel
theorem dX6_powerOfTen_5 : decode cX6_powerOfTen 5 = .ok (.iconst 4, 1) := by decide +kernel
theorem dX6_powerOfTen_6 : decode cX6_powerOfTen 6 = .ok (.if_icmp .ge 19, 3) := by decide +kernel
theorem dX6_powerOfTen_9 : decode cX6_powerOfTen 9 = .ok (.iload_n 2, 1) := by decide +kernel
theorem dX6_powerOfTen_10 : decode cX6_powerOfTen 10 = .ok (.iload_n 0, 1) := by decide +kernel
theorem dX6_powerOfTen_11 : decode cX6_powerOfTen 11 = .ok (.if_icmp .ge 14, 3) := by decide +kernel
theorem dX6_powerOfTen_14 : decode cX6_powerOfTen 14 = .ok (.iload_n 1, 1) := by decide +kernel
theorem dX6_powerOfTen_15 : decode cX6_powerOfTen 15 = .ok (.bipush 10, 2) := by decide +kernel
theorem dX6_powerOfTen_17 : decode cX6_powerOfTen 17 = .ok (.imul, 1) := by decide +kernel
theorem dX6_powerOfTen_18 : decode cX6_powerOfTen 18 = .ok (.istore_n 1, 1) := by decide +kernel
theorem dX6_powerOfTen_19 : decode cX6_powerOfTen 19 = .ok (.iinc 2 1, 3) := by decide +kernel
theorem dX6_powerOfTen_22 : decode cX6_powerOfTen 22 = .ok (.goto (-18), 3) := by decide +kernel
theorem dX6_powerOfTen_25 : decode cX6_powerOfTen 25 = .ok (.iload_n 1, 1) := by decide +kernel
theorem dX6_powerOfTen_26 : decode cX6_powerOfTen 26 = .ok (.ireturn, 1) := by decide +kernel
theorem dX6_figureSum_0 : decode cX6_figureSum 0 = .ok (.iconst 0, 1) := by decide +kernel
theorem dX6_figureSum_1 : decode cX6_figureSum 1 = .ok (.istore_n 1, 1) := by decide +kernel
theorem dX6_figureSum_2 : decode cX6_figureSum 2 = .ok (.iload_n 0, 1) := by decide +kernel
theorem dX6_figureSum_3 : decode cX6_figureSum 3 = .ok (.istore_n 2, 1) := by decide +kernel
theorem dX6_figureSum_4 : decode cX6_figureSum 4 = .ok (.iconst 0, 1) := by decide +kernel
theorem dX6_figureSum_5 : decode cX6_figureSum 5 = .ok (.istore_n 3, 1) := by decide +kernel
theorem dX6_figureSum_6 : decode cX6_figureSum 6 = .ok (.iload_n 3, 1) := by decide +kernel
theorem dX6_figureSum_7 : decode cX6_figureSum 7 = .ok (.iconst 4, 1) := by decide +kernel
theorem dX6_figureSum_8 : decode cX6_figureSum 8 = .ok (.if_icmp .ge 21, 3) := by decide +kernel
theorem dX6_figureSum_11 : decode cX6_figureSum 11 = .ok (.iload_n 1, 1) := by decide +kernel
theorem dX6_figureSum_12 : decode cX6_figureSum 12 = .ok (.iload_n 2, 1) := by decide +kernel
theorem dX6_figureSum_13 : decode cX6_figureSum 13 = .ok (.bipush 10, 2) := by decide +kernel
theorem dX6_figureSum_15 : decode cX6_figureSum 15 = .ok (.irem, 1) := by decide +kernel
theorem dX6_figureSum_16 : decode cX6_figureSum 16 = .ok (.iadd, 1) := by decide +kernel
theorem dX6_figureSum_17 : decode cX6_figureSum 17 = .ok (.istore_n 1, 1) := by decide +kernel
theorem dX6_figureSum_18 : decode cX6_figureSum 18 = .ok (.iload_n 2, 1) := by decide +kernel
theorem dX6_figureSum_19 : decode cX6_figureSum 19 = .ok (.bipush 10, 2) := by decide +kernel
theorem dX6_figureSum_21 : decode cX6_figureSum 21 = .ok (.idiv, 1) := by decide +kernel
theorem dX6_figureSum_22 : decode cX6_figureSum 22 = .ok (.istore_n 2, 1) := by decide +kernel
theorem dX6_figureSum_23 : decode cX6_figureSum 23 = .ok (.iinc 3 1, 3) := by decide +kernel
theorem dX6_figureSum_26 : decode cX6_figureSum 26 = .ok (.goto (-20), 3) := by decide +kernel
theorem dX6_figureSum_29 : decode cX6_figureSum 29 = .ok (.iload_n 1, 1) := by decide +kernel
theorem dX6_figureSum_30 : decode cX6_figureSum 30 = .ok (.ireturn, 1) := by decide +kernel
end
section
theorem dX7_init_0 : decode cX7_init 0 = .ok (.aload_n 0, 1) := by decide +kernel
theorem dX7_init_1 : decode cX7_init 1 = .ok (.invokespecial 1, 3) := by decide +kernel
theorem dX7_init_4 : decode cX7_init 4 = .ok (.aload_n 0, 1) := by decide +kernel
theorem dX7_init_5 : decode cX7_init 5 = .ok (.bipush 47, 2) := by decide +kernel
theorem dX7_init_7 : decode cX7_init 7 = .ok (.newarray .int, 2) := by decide +kernel
theorem dX7_init_9 : decode cX7_init 9 = .ok (.putfield 7, 3) := by decide +kernel
theorem dX7_init_12 : decode cX7_init 12 = .ok (.aload_n 0, 1) := by decide +kernel
theorem dX7_init_13 : decode cX7_init 13 = .ok (.bipush 16, 2) := by decide +kernel
theorem dX7_init_15 : decode cX7_init 15 = .ok (.newarray .int, 2) := by decide +kernel
theorem dX7_init_17 : decode cX7_init 17 = .ok (.putfield 13, 3) := by decide +kernel
theorem dX7_init_20 : decode cX7_init 20 = .ok (.aload_n 0, 1) := by decide +kernel
theorem dX7_init_21 : decode cX7_init 21 = .ok (.iconst 4, 1) := by decide +kernel
theorem dX7_init_22 : decode cX7_init 22 = .ok (.newarray .int, 2) := by decide +kernel
theorem dX7_init_24 : decode cX7_init 24 = .ok (.putfield 16, 3) := by decide +kernel
theorem dX7_init_27 : decode cX7_init 27 = .ok (.aload_n 0, 1) := by decide +kernel
theorem dX7_init_28 : decode cX7_init 28 = .ok (.iconst 4, 1) := by decide +kernel
theorem dX7_init_29 : decode cX7_init 29 = .ok (.newarray .int, 2) := by decide +kernel
theorem dX7_init_31 : decode cX7_init 31 = .ok (.putfield 19, 3) := by decide +kernel
theorem dX7_init_34 : decode cX7_init 34 = .ok (.aload_n 0, 1) := by decide +kernel
theorem dX7_init_35 : decode cX7_init 35 = .ok (.bipush 16, 2) := by decide +kernel
theorem dX7_init_37 : decode cX7_init 37 = .ok (.newarray .int, 2) := by decide +kernel
theorem dX7_init_39 : decode cX7_init 39 = .ok (.putfield 22, 3) := by decide +kernel
theorem dX7_init_42 : decode cX7_init 42 = .ok (.aload_n 0, 1) := by decide +kernel
theorem dX7_init_43 : decode cX7_init 43 = .ok (.iconst 4, 1) := by decide +kernel
theorem dX7_init_44 : decode cX7_init 44 = .ok (.newarray .int, 2) := by decide +kernel
theorem dX7_init_46 : decode cX7_init 46 = .ok (.putfield 25, 3) := by decide +kernel
theorem dX7_init_49 : decode cX7_init 49 = .ok (.aload_n 0, 1) := by decide +kernel
theorem dX7_init_50 : decode cX7_init 50 = .ok (.iconst 4, 1) := by decide +kernel
theorem dX7_init_51 : decode cX7_init 51 = .ok (.newarray .long, 2) := by decide +kernel
theorem dX7_init_53 : decode cX7_init 53 = .ok (.putfield 28, 3) := by decide +kernel
theorem dX7_init_56 : decode cX7_init 56 = .ok (.aload_n 0, 1) := by decide +kernel
theorem dX7_init_57 : decode cX7_init 57 = .ok (.bipush 9, 2) := by decide +kernel
theorem dX7_init_59 : decode cX7_init 59 = .ok (.newarray .long, 2) := by decide +kernel
theorem dX7_init_61 : decode cX7_init 61 = .ok (.putfield 32, 3) := by decide +kernel
theorem dX7_init_64 : decode cX7_init 64 = .ok (.aload_n 0, 1) := by decide +kernel
theorem dX7_init_65 : decode cX7_init 65 = .ok (.iconst 3, 1) := by decide +kernel
theorem dX7_init_66 : decode cX7_init 66 = .ok (.newarray .long, 2) := by decide +kernel
theorem dX7_init_68 : decode cX7_init 68 = .ok (.putfield 35, 3) := by decide +kernel
theorem dX7_init_71 : decode cX7_init 71 = .ok (.return_, 1) := by decide +kernel
theorem dX7_within_0 : decode cX7_within 0 = .ok (.iload_n 0, 1) := by decide +kernel
theorem dX7_within_1 : decode cX7_within 1 = .ok (.iload_n 1, 1) := by decide +kernel
theorem dX7_within_2 : decode cX7_within 2 = .ok (.if_icmp .lt 12, 3) := by decide +kernel
theorem dX7_within_5 : decode cX7_within 5 = .ok (.iload_n 0, 1) := by decide +kernel
theorem dX7_within_6 : decode cX7_within 6 = .ok (.iload_n 2, 1) := by decide +kernel
theorem dX7_within_7 : decode cX7_within 7 = .ok (.if_icmp .gt 7, 3) := by decide +kernel
theorem dX7_within_10 : decode cX7_within 10 = .ok (.iconst 1, 1) := by decide +kernel
theorem dX7_within_11 : decode cX7_within 11 = .ok (.goto 4, 3) := by decide +kernel
theorem dX7_within_14 : decode cX7_within 14 = .ok (.iconst 0, 1) := by decide +kernel
theorem dX7_within_15 : decode cX7_within 15 = .ok (.ireturn, 1) := by decide +kernel
theorem dX7_hasBit_0 : decode cX7_hasBit 0 = .ok (.iload_n 0, 1) := by decide +kernel
theorem dX7_hasBit_1 : decode cX7_hasBit 1 = .ok (.iload_n 1, 1) := by decide +kernel
theorem dX7_hasBit_2 : decode cX7_hasBit 2 = .ok (.ishr, 1) := by decide +kernel
theorem dX7_hasBit_3 : decode cX7_hasBit 3 = .ok (.iconst 1, 1) := by decide +kernel
theorem dX7_hasBit_4 : decode cX7_hasBit 4 = .ok (.iand, 1) := by decide +kernel
theorem dX7_hasBit_5 : decode cX7_hasBit 5 = .ok (.iconst 1, 1) := by decide +kernel
theorem dX7_hasBit_6 : decode cX7_hasBit 6 = .ok (.if_icmp .ne 7, 3) := by decide +kernel
theorem dX7_hasBit_9 : decode cX7_hasBit 9 = .ok (.iconst 1, 1) := by decide +kernel
theorem dX7_hasBit_10 : decode cX7_hasBit 10 = .ok (.goto 4, 3) := by decide +kernel
theorem dX7_hasBit_13 : decode cX7_hasBit 13 = .ok (.iconst 0, 1) := by decide +kernel
theorem dX7_hasBit_14 : decode cX7_hasBit 14 = .ok (.ireturn, 1) := by decide +kernel
theorem dX7_letter_0 : decode cX7_letter 0 = .ok (.iload_n 1, 1) := by decide +kernel
theorem dX7_letter_1 : decode cX7_letter 1 = .ok (.bipush 32, 2) := by decide +kernel
theorem dX7_letter_3 : decode cX7_letter 3 = .ok (.bipush 126, 2) := by decide +kernel
theorem dX7_letter_5 : decode cX7_letter 5 = .ok (.invokestatic 38, 3) := by decide +kernel
theorem dX7_letter_8 : decode cX7_letter 8 = .ok (.ifCond .ne 7, 3) := by decide +kernel
theorem dX7_letter_11 : decode cX7_letter 11 = .ok (.ldc2_w 42, 3) := by decide +kernel
theorem dX7_letter_14 : decode cX7_letter 14 = .ok (.lreturn, 1) := by decide +kernel
theorem dX7_letter_15 : decode cX7_letter 15 = .ok (.aload_n 0, 1) := by decide +kernel
theorem dX7_letter_16 : decode cX7_letter 16 = .ok (.getfield 44, 3) := by decide +kernel
theorem dX7_letter_19 : decode cX7_letter 19 = .ok (.bipush 47, 2) := by decide +kernel
theorem dX7_letter_21 : decode cX7_letter 21 = .ok (.if_icmp .ne 7, 3) := by decide +kernel
theorem dX7_letter_24 : decode cX7_letter 24 = .ok (.ldc2_w 48, 3) := by decide +kernel
theorem dX7_letter_27 : decode cX7_letter 27 = .ok (.lreturn, 1) := by decide +kernel
theorem dX7_letter_28 : decode cX7_letter 28 = .ok (.aload_n 0, 1) := by decide +kernel
theorem dX7_letter_29 : decode cX7_letter 29 = .ok (.getfield 7, 3) := by decide +kernel
theorem dX7_letter_32 : decode cX7_letter 32 = .ok (.aload_n 0, 1) := by decide +kernel
theorem dX7_letter_33 : decode cX7_letter 33 = .ok (.getfield 44, 3) := by decide +kernel
theorem dX7_letter_36 : decode cX7_letter 36 = .ok (.iload_n 1, 1) := by decide +kernel
theorem dX7_letter_37 : decode cX7_letter 37 = .ok (.iastore, 1) := by decide +kernel
theorem dX7_letter_38 : decode cX7_letter 38 = .ok (.aload_n 0, 1) := by decide +kernel
theorem dX7_letter_39 : decode cX7_letter 39 = .ok (.dup, 1) := by decide +kernel
theorem dX7_letter_40 : decode cX7_letter 40 = .ok (.getfield 44, 3) := by decide +kernel
theorem dX7_letter_43 : decode cX7_letter 43 = .ok (.iconst 1, 1) := by decide +kernel
theorem dX7_letter_44 : decode cX7_letter 44 = .ok (.iadd, 1) := by decide +kernel
theorem dX7_letter_45 : decode cX7_letter 45 = .ok (.putfield 44, 3) := by decide +kernel
theorem dX7_letter_48 : decode cX7_letter 48 = .ok (.aload_n 0, 1) := by decide +kernel
theorem dX7_letter_49 : decode cX7_letter 49 = .ok (.getfield 44, 3) := by decide +kernel
theorem dX7_letter_52 : decode cX7_letter 52 = .ok (.i2l, 1) := by decide +kernel
theorem dX7_letter_53 : decode cX7_letter 53 = .ok (.lreturn, 1) := by decide +kernel
theorem dX7_blank_0 : decode cX7_blank 0 = .ok (.aload_n 0, 1) := by decide +kernel
theorem dX7_blank_1 : decode cX7_blank 1 = .ok (.getfield 44, 3) := by decide +kernel
theorem dX7_blank_4 : decode cX7_blank 4 = .ok (.istore_n 1, 1) := by decide +kernel
theorem dX7_blank_5 : decode cX7_blank 5 = .ok (.aload_n 0, 1) := by decide +kernel
theorem dX7_blank_6 : decode cX7_blank 6 = .ok (.iconst 0, 1) := by decide +kernel
theorem dX7_blank_7 : decode cX7_blank 7 = .ok (.putfield 44, 3) := by decide +kernel
theorem dX7_blank_10 : decode cX7_blank 10 = .ok (.iload_n 1, 1) := by decide +kernel
theorem dX7_blank_11 : decode cX7_blank 11 = .ok (.i2l, 1) := by decide +kernel
theorem dX7_blank_12 : decode cX7_blank 12 = .ok (.lreturn, 1) := by decide +kernel
theorem dX7_endNumber_0 : decode cX7_endNumber 0 = .ok (.aload_n 0, 1) := by decide +kernel
theorem dX7_endNumber_1 : decode cX7_endNumber 1 = .ok (.getfield 22, 3) := by decide +kernel
theorem dX7_endNumber_4 : decode cX7_endNumber 4 = .ok (.iconst 4, 1) := by decide +kernel
theorem dX7_endNumber_5 : decode cX7_endNumber 5 = .ok (.aload_n 0, 1) := by decide +kernel
theorem dX7_endNumber_6 : decode cX7_endNumber 6 = .ok (.getfield 50, 3) := by decide +kernel
theorem dX7_endNumber_9 : decode cX7_endNumber 9 = .ok (.imul, 1) := by decide +kernel
theorem dX7_endNumber_10 : decode cX7_endNumber 10 = .ok (.aload_n 0, 1) := by decide +kernel
theorem dX7_endNumber_11 : decode cX7_endNumber 11 = .ok (.getfield 53, 3) := by decide +kernel
theorem dX7_endNumber_14 : decode cX7_endNumber 14 = .ok (.iadd, 1) := by decide +kernel
theorem dX7_endNumber_15 : decode cX7_endNumber 15 = .ok (.aload_n 0, 1) := by decide +kernel
theorem dX7_endNumber_16 : decode cX7_endNumber 16 = .ok (.getfield 56, 3) := by decide +kernel
theorem dX7_endNumber_19 : decode cX7_endNumber 19 = .ok (.iastore, 1) := by decide +kernel
theorem dX7_endNumber_20 : decode cX7_endNumber 20 = .ok (.aload_n 0, 1) := by decide +kernel
theorem dX7_endNumber_21 : decode cX7_endNumber 21 = .ok (.dup, 1) := by decide +kernel
theorem dX7_endNumber_22 : decode cX7_endNumber 22 = .ok (.getfield 53, 3) := by decide +kernel
theorem dX7_endNumber_25 : decode cX7_endNumber 25 = .ok (.iconst 1, 1) := by decide +kernel
theorem dX7_endNumber_26 : decode cX7_endNumber 26 = .ok (.iadd, 1) := by decide +kernel
theorem dX7_endNumber_27 : decode cX7_endNumber 27 = .ok (.putfield 53, 3) := by decide +kernel
theorem dX7_endNumber_30 : decode cX7_endNumber 30 = .ok (.aload_n 0, 1) := by decide +kernel
theorem dX7_endNumber_31 : decode cX7_endNumber 31 = .ok (.iconst 0, 1) := by decide +kernel
theorem dX7_endNumber_32 : decode cX7_endNumber 32 = .ok (.putfield 59, 3) := by decide +kernel
theorem dX7_endNumber_35 : decode cX7_endNumber 35 = .ok (.aload_n 0, 1) := by decide +kernel
theorem dX7_endNumber_36 : decode cX7_endNumber 36 = .ok (.iconst 0, 1) := by decide +kernel
theorem dX7_endNumber_37 : decode cX7_endNumber 37 = .ok (.putfield 56, 3) := by decide +kernel
theorem dX7_endNumber_40 : decode cX7_endNumber 40 = .ok (.return_, 1) := by decide +kernel
theorem dX7_takes_0 : decode cX7_takes 0 = .ok (.iload_n 1, 1) := by decide +kernel
theorem dX7_takes_1 : decode cX7_takes 1 = .ok (.bipush 48, 2) := by decide +kernel
theorem dX7_takes_3 : decode cX7_takes 3 = .ok (.bipush 57, 2) := by decide +kernel
theorem dX7_takes_5 : decode cX7_takes 5 = .ok (.invokestatic 38, 3) := by decide +kernel
theorem dX7_takes_8 : decode cX7_takes 8 = .ok (.ifCond .eq 86, 3) := by decide +kernel
theorem dX7_takes_11 : decode cX7_takes 11 = .ok (.bipush 10, 2) := by decide +kernel
theorem dX7_takes_13 : decode cX7_takes 13 = .ok (.aload_n 0, 1) := by decide +kernel
theorem dX7_takes_14 : decode cX7_takes 14 = .ok (.getfield 56, 3) := by decide +kernel
theorem dX7_takes_17 : decode cX7_takes 17 = .ok (.imul, 1) := by decide +kernel
theorem dX7_takes_18 : decode cX7_takes 18 = .ok (.iload_n 1, 1) := by decide +kernel
theorem dX7_takes_19 : decode cX7_takes 19 = .ok (.iadd, 1) := by decide +kernel
theorem dX7_takes_20 : decode cX7_takes 20 = .ok (.bipush 48, 2) := by decide +kernel
theorem dX7_takes_22 : decode cX7_takes 22 = .ok (.isub, 1) := by decide +kernel
theorem dX7_takes_23 : decode cX7_takes 23 = .ok (.istore_n 2, 1) := by decide +kernel
theorem dX7_takes_24 : decode cX7_takes 24 = .ok (.aload_n 0, 1) := by decide +kernel
theorem dX7_takes_25 : decode cX7_takes 25 = .ok (.getfield 59, 3) := by decide +kernel
theorem dX7_takes_28 : decode cX7_takes 28 = .ok (.ifCond .eq 24, 3) := by decide +kernel
theorem dX7_takes_31 : decode cX7_takes 31 = .ok (.aload_n 0, 1) := by decide +kernel
theorem dX7_takes_32 : decode cX7_takes 32 = .ok (.getfield 59, 3) := by decide +kernel
theorem dX7_takes_35 : decode cX7_takes 35 = .ok (.iconst 1, 1) := by decide +kernel
theorem dX7_takes_36 : decode cX7_takes 36 = .ok (.if_icmp .ne 20, 3) := by decide +kernel
theorem dX7_takes_39 : decode cX7_takes 39 = .ok (.aload_n 0, 1) := by decide +kernel
theorem dX7_takes_40 : decode cX7_takes 40 = .ok (.getfield 56, 3) := by decide +kernel
theorem dX7_takes_43 : decode cX7_takes 43 = .ok (.ifCond .le 13, 3) := by decide +kernel
theorem dX7_takes_46 : decode cX7_takes 46 = .ok (.iload_n 2, 1) := by decide +kernel
theorem dX7_takes_47 : decode cX7_takes 47 = .ok (.bipush 20, 2) := by decide +kernel
theorem dX7_takes_49 : decode cX7_takes 49 = .ok (.if_icmp .gt 7, 3) := by decide +kernel
theorem dX7_takes_52 : decode cX7_takes 52 = .ok (.iconst 1, 1) := by decide +kernel
theorem dX7_takes_53 : decode cX7_takes 53 = .ok (.goto 4, 3) := by decide +kernel
theorem dX7_takes_56 : decode cX7_takes 56 = .ok (.iconst 0, 1) := by decide +kernel
theorem dX7_takes_57 : decode cX7_takes 57 = .ok (.istore_n 3, 1) := by decide +kernel
theorem dX7_takes_58 : decode cX7_takes 58 = .ok (.aload_n 0, 1) := by decide +kernel
theorem dX7_takes_59 : decode cX7_takes 59 = .ok (.iload_n 3, 1) := by decide +kernel
theorem dX7_takes_60 : decode cX7_takes 60 = .ok (.ifCond .eq 7, 3) := by decide +kernel
theorem dX7_takes_63 : decode cX7_takes 63 = .ok (.iload_n 2, 1) := by decide +kernel
theorem dX7_takes_64 : decode cX7_takes 64 = .ok (.goto 7, 3) := by decide +kernel
theorem dX7_takes_67 : decode cX7_takes 67 = .ok (.aload_n 0, 1) := by decide +kernel
theorem dX7_takes_68 : decode cX7_takes 68 = .ok (.getfield 56, 3) := by decide +kernel
theorem dX7_takes_71 : decode cX7_takes 71 = .ok (.putfield 56, 3) := by decide +kernel
theorem dX7_takes_74 : decode cX7_takes 74 = .ok (.aload_n 0, 1) := by decide +kernel
theorem dX7_takes_75 : decode cX7_takes 75 = .ok (.dup, 1) := by decide +kernel
theorem dX7_takes_76 : decode cX7_takes 76 = .ok (.getfield 59, 3) := by decide +kernel
theorem dX7_takes_79 : decode cX7_takes 79 = .ok (.iload_n 3, 1) := by decide +kernel
theorem dX7_takes_80 : decode cX7_takes 80 = .ok (.ifCond .eq 7, 3) := by decide +kernel
theorem dX7_takes_83 : decode cX7_takes 83 = .ok (.iconst 1, 1) := by decide +kernel
theorem dX7_takes_84 : decode cX7_takes 84 = .ok (.goto 4, 3) := by decide +kernel
theorem dX7_takes_87 : decode cX7_takes 87 = .ok (.iconst 0, 1) := by decide +kernel
theorem dX7_takes_88 : decode cX7_takes 88 = .ok (.iadd, 1) := by decide +kernel
theorem dX7_takes_89 : decode cX7_takes 89 = .ok (.putfield 59, 3) := by decide +kernel
theorem dX7_takes_92 : decode cX7_takes 92 = .ok (.iload_n 3, 1) := by decide +kernel
theorem dX7_takes_93 : decode cX7_takes 93 = .ok (.ireturn, 1) := by decide +kernel
theorem dX7_takes_94 : decode cX7_takes 94 = .ok (.aload_n 0, 1) := by decide +kernel
theorem dX7_takes_95 : decode cX7_takes 95 = .ok (.getfield 62, 3) := by decide +kernel
theorem dX7_takes_98 : decode cX7_takes 98 = .ok (.ifCond .ne 7, 3) := by decide +kernel
theorem dX7_takes_101 : decode cX7_takes 101 = .ok (.iconst 4, 1) := by decide +kernel
theorem dX7_takes_102 : decode cX7_takes 102 = .ok (.goto 7, 3) := by decide +kernel
theorem dX7_takes_105 : decode cX7_takes 105 = .ok (.aload_n 0, 1) := by decide +kernel
theorem dX7_takes_106 : decode cX7_takes 106 = .ok (.getfield 62, 3) := by decide +kernel
theorem dX7_takes_109 : decode cX7_takes 109 = .ok (.istore_n 2, 1) := by decide +kernel
theorem dX7_takes_110 : decode cX7_takes 110 = .ok (.iload_n 1, 1) := by decide +kernel
theorem dX7_takes_111 : decode cX7_takes 111 = .ok (.bipush 44, 2) := by decide +kernel
theorem dX7_takes_113 : decode cX7_takes 113 = .ok (.if_icmp .ne 26, 3) := by decide +kernel
theorem dX7_takes_116 : decode cX7_takes 116 = .ok (.aload_n 0, 1) := by decide +kernel
theorem dX7_takes_117 : decode cX7_takes 117 = .ok (.getfield 59, 3) := by decide +kernel
theorem dX7_takes_120 : decode cX7_takes 120 = .ok (.ifCond .le 19, 3) := by decide +kernel
theorem dX7_takes_123 : decode cX7_takes 123 = .ok (.aload_n 0, 1) := by decide +kernel
theorem dX7_takes_124 : decode cX7_takes 124 = .ok (.getfield 53, 3) := by decide +kernel
theorem dX7_takes_127 : decode cX7_takes 127 = .ok (.iconst 1, 1) := by decide +kernel
theorem dX7_takes_128 : decode cX7_takes 128 = .ok (.iadd, 1) := by decide +kernel
theorem dX7_takes_129 : decode cX7_takes 129 = .ok (.iload_n 2, 1) := by decide +kernel
theorem dX7_takes_130 : decode cX7_takes 130 = .ok (.if_icmp .ge 9, 3) := by decide +kernel
theorem dX7_takes_133 : decode cX7_takes 133 = .ok (.aload_n 0, 1) := by decide +kernel
theorem dX7_takes_134 : decode cX7_takes 134 = .ok (.invokevirtual 65, 3) := by decide +kernel
theorem dX7_takes_137 : decode cX7_takes 137 = .ok (.iconst 1, 1) := by decide +kernel
theorem dX7_takes_138 : decode cX7_takes 138 = .ok (.ireturn, 1) := by decide +kernel
theorem dX7_takes_139 : decode cX7_takes 139 = .ok (.aload_n 0, 1) := by decide +kernel
theorem dX7_takes_140 : decode cX7_takes 140 = .ok (.getfield 59, 3) := by decide +kernel
theorem dX7_takes_143 : decode cX7_takes 143 = .ok (.ifCond .le 27, 3) := by decide +kernel
theorem dX7_takes_146 : decode cX7_takes 146 = .ok (.aload_n 0, 1) := by decide +kernel
theorem dX7_takes_147 : decode cX7_takes 147 = .ok (.getfield 62, 3) := by decide +kernel
theorem dX7_takes_150 : decode cX7_takes 150 = .ok (.ifCond .eq 16, 3) := by decide +kernel
theorem dX7_takes_153 : decode cX7_takes 153 = .ok (.aload_n 0, 1) := by decide +kernel
theorem dX7_takes_154 : decode cX7_takes 154 = .ok (.getfield 53, 3) := by decide +kernel
theorem dX7_takes_157 : decode cX7_takes 157 = .ok (.iconst 1, 1) := by decide +kernel
theorem dX7_takes_158 : decode cX7_takes 158 = .ok (.iadd, 1) := by decide +kernel
theorem dX7_takes_159 : decode cX7_takes 159 = .ok (.aload_n 0, 1) := by decide +kernel
theorem dX7_takes_160 : decode cX7_takes 160 = .ok (.getfield 62, 3) := by decide +kernel
theorem dX7_takes_163 : decode cX7_takes 163 = .ok (.if_icmp .ne 7, 3) := by decide +kernel
theorem dX7_takes_166 : decode cX7_takes 166 = .ok (.iconst 1, 1) := by decide +kernel
theorem dX7_takes_167 : decode cX7_takes 167 = .ok (.goto 4, 3) := by decide +kernel
theorem dX7_takes_170 : decode cX7_takes 170 = .ok (.iconst 0, 1) := by decide +kernel
theorem dX7_takes_171 : decode cX7_takes 171 = .ok (.istore_n 3, 1) := by decide +kernel
theorem dX7_takes_172 : decode cX7_takes 172 = .ok (.iload_n 1, 1) := by decide +kernel
theorem dX7_takes_173 : decode cX7_takes 173 = .ok (.bipush 59, 2) := by decide +kernel
theorem dX7_takes_175 : decode cX7_takes 175 = .ok (.if_icmp .ne 46, 3) := by decide +kernel
theorem dX7_takes_178 : decode cX7_takes 178 = .ok (.iload_n 3, 1) := by decide +kernel
theorem dX7_takes_179 : decode cX7_takes 179 = .ok (.ifCond .eq 42, 3) := by decide +kernel
theorem dX7_takes_182 : decode cX7_takes 182 = .ok (.aload_n 0, 1) := by decide +kernel
theorem dX7_takes_183 : decode cX7_takes 183 = .ok (.getfield 50, 3) := by decide +kernel
theorem dX7_takes_186 : decode cX7_takes 186 = .ok (.iconst 1, 1) := by decide +kernel
theorem dX7_takes_187 : decode cX7_takes 187 = .ok (.iadd, 1) := by decide +kernel
theorem dX7_takes_188 : decode cX7_takes 188 = .ok (.iconst 4, 1) := by decide +kernel
theorem dX7_takes_189 : decode cX7_takes 189 = .ok (.if_icmp .ge 32, 3) := by decide +kernel
theorem dX7_takes_192 : decode cX7_takes 192 = .ok (.aload_n 0, 1) := by decide +kernel
theorem dX7_takes_193 : decode cX7_takes 193 = .ok (.invokevirtual 65, 3) := by decide +kernel
theorem dX7_takes_196 : decode cX7_takes 196 = .ok (.aload_n 0, 1) := by decide +kernel
theorem dX7_takes_197 : decode cX7_takes 197 = .ok (.aload_n 0, 1) := by decide +kernel
theorem dX7_takes_198 : decode cX7_takes 198 = .ok (.getfield 53, 3) := by decide +kernel
theorem dX7_takes_201 : decode cX7_takes 201 = .ok (.putfield 62, 3) := by decide +kernel
theorem dX7_takes_204 : decode cX7_takes 204 = .ok (.aload_n 0, 1) := by decide +kernel
theorem dX7_takes_205 : decode cX7_takes 205 = .ok (.iconst 0, 1) := by decide +kernel
theorem dX7_takes_206 : decode cX7_takes 206 = .ok (.putfield 53, 3) := by decide +kernel
theorem dX7_takes_209 : decode cX7_takes 209 = .ok (.aload_n 0, 1) := by decide +kernel
theorem dX7_takes_210 : decode cX7_takes 210 = .ok (.dup, 1) := by decide +kernel
theorem dX7_takes_211 : decode cX7_takes 211 = .ok (.getfield 50, 3) := by decide +kernel
theorem dX7_takes_214 : decode cX7_takes 214 = .ok (.iconst 1, 1) := by decide +kernel
theorem dX7_takes_215 : decode cX7_takes 215 = .ok (.iadd, 1) := by decide +kernel
theorem dX7_takes_216 : decode cX7_takes 216 = .ok (.putfield 50, 3) := by decide +kernel
theorem dX7_takes_219 : decode cX7_takes 219 = .ok (.iconst 1, 1) := by decide +kernel
theorem dX7_takes_220 : decode cX7_takes 220 = .ok (.ireturn, 1) := by decide +kernel
theorem dX7_takes_221 : decode cX7_takes 221 = .ok (.iconst 0, 1) := by decide +kernel
theorem dX7_takes_222 : decode cX7_takes 222 = .ok (.ireturn, 1) := by decide +kernel
theorem dX7_goAlong_0 : decode cX7_goAlong 0 = .ok (.aload_n 0, 1) := by decide +kernel
theorem dX7_goAlong_1 : decode cX7_goAlong 1 = .ok (.iconst 0, 1) := by decide +kernel
theorem dX7_goAlong_2 : decode cX7_goAlong 2 = .ok (.putfield 50, 3) := by decide +kernel
theorem dX7_goAlong_5 : decode cX7_goAlong 5 = .ok (.aload_n 0, 1) := by decide +kernel
theorem dX7_goAlong_6 : decode cX7_goAlong 6 = .ok (.iconst 0, 1) := by decide +kernel
theorem dX7_goAlong_7 : decode cX7_goAlong 7 = .ok (.putfield 53, 3) := by decide +kernel
theorem dX7_goAlong_10 : decode cX7_goAlong 10 = .ok (.aload_n 0, 1) := by decide +kernel
theorem dX7_goAlong_11 : decode cX7_goAlong 11 = .ok (.iconst 0, 1) := by decide +kernel
theorem dX7_goAlong_12 : decode cX7_goAlong 12 = .ok (.putfield 62, 3) := by decide +kernel
theorem dX7_goAlong_15 : decode cX7_goAlong 15 = .ok (.aload_n 0, 1) := by decide +kernel
theorem dX7_goAlong_16 : decode cX7_goAlong 16 = .ok (.iconst 0, 1) := by decide +kernel
theorem dX7_goAlong_17 : decode cX7_goAlong 17 = .ok (.putfield 59, 3) := by decide +kernel
theorem dX7_goAlong_20 : decode cX7_goAlong 20 = .ok (.aload_n 0, 1) := by decide +kernel
theorem dX7_goAlong_21 : decode cX7_goAlong 21 = .ok (.iconst 0, 1) := by decide +kernel
theorem dX7_goAlong_22 : decode cX7_goAlong 22 = .ok (.putfield 56, 3) := by decide +kernel
theorem dX7_goAlong_25 : decode cX7_goAlong 25 = .ok (.iconst 0, 1) := by decide +kernel
theorem dX7_goAlong_26 : decode cX7_goAlong 26 = .ok (.istore_n 1, 1) := by decide +kernel
theorem dX7_goAlong_27 : decode cX7_goAlong 27 = .ok (.iload_n 1, 1) := by decide +kernel
theorem dX7_goAlong_28 : decode cX7_goAlong 28 = .ok (.aload_n 0, 1) := by decide +kernel
theorem dX7_goAlong_29 : decode cX7_goAlong 29 = .ok (.getfield 44, 3) := by decide +kernel
theorem dX7_goAlong_32 : decode cX7_goAlong 32 = .ok (.if_icmp .ge 22, 3) := by decide +kernel
theorem dX7_goAlong_35 : decode cX7_goAlong 35 = .ok (.aload_n 0, 1) := by decide +kernel
theorem dX7_goAlong_36 : decode cX7_goAlong 36 = .ok (.aload_n 0, 1) := by decide +kernel
theorem dX7_goAlong_37 : decode cX7_goAlong 37 = .ok (.getfield 7, 3) := by decide +kernel
theorem dX7_goAlong_40 : decode cX7_goAlong 40 = .ok (.iload_n 1, 1) := by decide +kernel
theorem dX7_goAlong_41 : decode cX7_goAlong 41 = .ok (.iaload, 1) := by decide +kernel
theorem dX7_goAlong_42 : decode cX7_goAlong 42 = .ok (.invokevirtual 68, 3) := by decide +kernel
theorem dX7_goAlong_45 : decode cX7_goAlong 45 = .ok (.ifCond .eq 9, 3) := by decide +kernel
theorem dX7_goAlong_48 : decode cX7_goAlong 48 = .ok (.iinc 1 1, 3) := by decide +kernel
theorem dX7_goAlong_51 : decode cX7_goAlong 51 = .ok (.goto (-24), 3) := by decide +kernel
theorem dX7_goAlong_54 : decode cX7_goAlong 54 = .ok (.iload_n 1, 1) := by decide +kernel
theorem dX7_goAlong_55 : decode cX7_goAlong 55 = .ok (.ireturn, 1) := by decide +kernel
theorem dX7_fault_0 : decode cX7_fault 0 = .ok (.aload_n 0, 1) := by decide +kernel
theorem dX7_fault_1 : decode cX7_fault 1 = .ok (.invokevirtual 72, 3) := by decide +kernel
theorem dX7_fault_4 : decode cX7_fault 4 = .ok (.i2l, 1) := by decide +kernel
theorem dX7_fault_5 : decode cX7_fault 5 = .ok (.lreturn, 1) := by decide +kernel
theorem dX7_sources_0 : decode cX7_sources 0 = .ok (.aload_n 0, 1) := by decide +kernel
theorem dX7_sources_1 : decode cX7_sources 1 = .ok (.invokevirtual 72, 3) := by decide +kernel
theorem dX7_sources_4 : decode cX7_sources 4 = .ok (.aload_n 0, 1) := by decide +kernel
theorem dX7_sources_5 : decode cX7_sources 5 = .ok (.getfield 44, 3) := by decide +kernel
theorem dX7_sources_8 : decode cX7_sources 8 = .ok (.if_icmp .lt 30, 3) := by decide +kernel
theorem dX7_sources_11 : decode cX7_sources 11 = .ok (.aload_n 0, 1) := by decide +kernel
theorem dX7_sources_12 : decode cX7_sources 12 = .ok (.getfield 59, 3) := by decide +kernel
theorem dX7_sources_15 : decode cX7_sources 15 = .ok (.ifCond .eq 23, 3) := by decide +kernel
theorem dX7_sources_18 : decode cX7_sources 18 = .ok (.aload_n 0, 1) := by decide +kernel
theorem dX7_sources_19 : decode cX7_sources 19 = .ok (.getfield 62, 3) := by decide +kernel
theorem dX7_sources_22 : decode cX7_sources 22 = .ok (.ifCond .le 20, 3) := by decide +kernel
theorem dX7_sources_25 : decode cX7_sources 25 = .ok (.aload_n 0, 1) := by decide +kernel
theorem dX7_sources_26 : decode cX7_sources 26 = .ok (.getfield 53, 3) := by decide +kernel
theorem dX7_sources_29 : decode cX7_sources 29 = .ok (.iconst 1, 1) := by decide +kernel
theorem dX7_sources_30 : decode cX7_sources 30 = .ok (.iadd, 1) := by decide +kernel
theorem dX7_sources_31 : decode cX7_sources 31 = .ok (.aload_n 0, 1) := by decide +kernel
theorem dX7_sources_32 : decode cX7_sources 32 = .ok (.getfield 62, 3) := by decide +kernel
theorem dX7_sources_35 : decode cX7_sources 35 = .ok (.if_icmp .eq 7, 3) := by decide +kernel
theorem dX7_sources_38 : decode cX7_sources 38 = .ok (.ldc2_w 76, 3) := by decide +kernel
theorem dX7_sources_41 : decode cX7_sources 41 = .ok (.lreturn, 1) := by decide +kernel
theorem dX7_sources_42 : decode cX7_sources 42 = .ok (.aload_n 0, 1) := by decide +kernel
theorem dX7_sources_43 : decode cX7_sources 43 = .ok (.invokevirtual 65, 3) := by decide +kernel
theorem dX7_sources_46 : decode cX7_sources 46 = .ok (.aload_n 0, 1) := by decide +kernel
theorem dX7_sources_47 : decode cX7_sources 47 = .ok (.aload_n 0, 1) := by decide +kernel
theorem dX7_sources_48 : decode cX7_sources 48 = .ok (.getfield 50, 3) := by decide +kernel
theorem dX7_sources_51 : decode cX7_sources 51 = .ok (.iconst 1, 1) := by decide +kernel
theorem dX7_sources_52 : decode cX7_sources 52 = .ok (.iadd, 1) := by decide +kernel
theorem dX7_sources_53 : decode cX7_sources 53 = .ok (.putfield 78, 3) := by decide +kernel
theorem dX7_sources_56 : decode cX7_sources 56 = .ok (.aload_n 0, 1) := by decide +kernel
theorem dX7_sources_57 : decode cX7_sources 57 = .ok (.aload_n 0, 1) := by decide +kernel
theorem dX7_sources_58 : decode cX7_sources 58 = .ok (.getfield 53, 3) := by decide +kernel
theorem dX7_sources_61 : decode cX7_sources 61 = .ok (.putfield 81, 3) := by decide +kernel
theorem dX7_sources_64 : decode cX7_sources 64 = .ok (.iconst 0, 1) := by decide +kernel
theorem dX7_sources_65 : decode cX7_sources 65 = .ok (.istore_n 1, 1) := by decide +kernel
theorem dX7_sources_66 : decode cX7_sources 66 = .ok (.iload_n 1, 1) := by decide +kernel
theorem dX7_sources_67 : decode cX7_sources 67 = .ok (.bipush 16, 2) := by decide +kernel
theorem dX7_sources_69 : decode cX7_sources 69 = .ok (.if_icmp .ge 45, 3) := by decide +kernel
theorem dX7_sources_72 : decode cX7_sources 72 = .ok (.aload_n 0, 1) := by decide +kernel
theorem dX7_sources_73 : decode cX7_sources 73 = .ok (.getfield 13, 3) := by decide +kernel
theorem dX7_sources_76 : decode cX7_sources 76 = .ok (.iload_n 1, 1) := by decide +kernel
theorem dX7_sources_77 : decode cX7_sources 77 = .ok (.iload_n 1, 1) := by decide +kernel
theorem dX7_sources_78 : decode cX7_sources 78 = .ok (.iconst 4, 1) := by decide +kernel
theorem dX7_sources_79 : decode cX7_sources 79 = .ok (.idiv, 1) := by decide +kernel
theorem dX7_sources_80 : decode cX7_sources 80 = .ok (.aload_n 0, 1) := by decide +kernel
theorem dX7_sources_81 : decode cX7_sources 81 = .ok (.getfield 78, 3) := by decide +kernel
theorem dX7_sources_84 : decode cX7_sources 84 = .ok (.if_icmp .ge 22, 3) := by decide +kernel
theorem dX7_sources_87 : decode cX7_sources 87 = .ok (.iload_n 1, 1) := by decide +kernel
theorem dX7_sources_88 : decode cX7_sources 88 = .ok (.iconst 4, 1) := by decide +kernel
theorem dX7_sources_89 : decode cX7_sources 89 = .ok (.irem, 1) := by decide +kernel
theorem dX7_sources_90 : decode cX7_sources 90 = .ok (.aload_n 0, 1) := by decide +kernel
theorem dX7_sources_91 : decode cX7_sources 91 = .ok (.getfield 81, 3) := by decide +kernel
theorem dX7_sources_94 : decode cX7_sources 94 = .ok (.if_icmp .ge 12, 3) := by decide +kernel
theorem dX7_sources_97 : decode cX7_sources 97 = .ok (.aload_n 0, 1) := by decide +kernel
theorem dX7_sources_98 : decode cX7_sources 98 = .ok (.getfield 22, 3) := by decide +kernel
theorem dX7_sources_101 : decode cX7_sources 101 = .ok (.iload_n 1, 1) := by decide +kernel
theorem dX7_sources_102 : decode cX7_sources 102 = .ok (.iaload, 1) := by decide +kernel
theorem dX7_sources_103 : decode cX7_sources 103 = .ok (.goto 4, 3) := by decide +kernel
theorem dX7_sources_106 : decode cX7_sources 106 = .ok (.iconst 0, 1) := by decide +kernel
theorem dX7_sources_107 : decode cX7_sources 107 = .ok (.iastore, 1) := by decide +kernel
theorem dX7_sources_108 : decode cX7_sources 108 = .ok (.iinc 1 1, 3) := by decide +kernel
theorem dX7_sources_111 : decode cX7_sources 111 = .ok (.goto (-45), 3) := by decide +kernel
theorem dX7_sources_114 : decode cX7_sources 114 = .ok (.iconst 0, 1) := by decide +kernel
theorem dX7_sources_115 : decode cX7_sources 115 = .ok (.istore_n 1, 1) := by decide +kernel
theorem dX7_sources_116 : decode cX7_sources 116 = .ok (.iload_n 1, 1) := by decide +kernel
theorem dX7_sources_117 : decode cX7_sources 117 = .ok (.iconst 4, 1) := by decide +kernel
theorem dX7_sources_118 : decode cX7_sources 118 = .ok (.if_icmp .ge 23, 3) := by decide +kernel
theorem dX7_sources_121 : decode cX7_sources 121 = .ok (.aload_n 0, 1) := by decide +kernel
theorem dX7_sources_122 : decode cX7_sources 122 = .ok (.getfield 16, 3) := by decide +kernel
theorem dX7_sources_125 : decode cX7_sources 125 = .ok (.iload_n 1, 1) := by decide +kernel
theorem dX7_sources_126 : decode cX7_sources 126 = .ok (.iconst 0, 1) := by decide +kernel
theorem dX7_sources_127 : decode cX7_sources 127 = .ok (.iastore, 1) := by decide +kernel
theorem dX7_sources_128 : decode cX7_sources 128 = .ok (.aload_n 0, 1) := by decide +kernel
theorem dX7_sources_129 : decode cX7_sources 129 = .ok (.getfield 19, 3) := by decide +kernel
theorem dX7_sources_132 : decode cX7_sources 132 = .ok (.iload_n 1, 1) := by decide +kernel
theorem dX7_sources_133 : decode cX7_sources 133 = .ok (.iconst 1, 1) := by decide +kernel
theorem dX7_sources_134 : decode cX7_sources 134 = .ok (.iastore, 1) := by decide +kernel
theorem dX7_sources_135 : decode cX7_sources 135 = .ok (.iinc 1 1, 3) := by decide +kernel
theorem dX7_sources_138 : decode cX7_sources 138 = .ok (.goto (-22), 3) := by decide +kernel
theorem dX7_sources_141 : decode cX7_sources 141 = .ok (.aload_n 0, 1) := by decide +kernel
theorem dX7_sources_142 : decode cX7_sources 142 = .ok (.dup, 1) := by decide +kernel
theorem dX7_sources_143 : decode cX7_sources 143 = .ok (.getfield 84, 3) := by decide +kernel
theorem dX7_sources_146 : decode cX7_sources 146 = .ok (.iconst 1, 1) := by decide +kernel
theorem dX7_sources_147 : decode cX7_sources 147 = .ok (.iadd, 1) := by decide +kernel
theorem dX7_sources_148 : decode cX7_sources 148 = .ok (.putfield 84, 3) := by decide +kernel
theorem dX7_sources_151 : decode cX7_sources 151 = .ok (.aload_n 0, 1) := by decide +kernel
theorem dX7_sources_152 : decode cX7_sources 152 = .ok (.iconst 0, 1) := by decide +kernel
theorem dX7_sources_153 : decode cX7_sources 153 = .ok (.putfield 44, 3) := by decide +kernel
theorem dX7_sources_156 : decode cX7_sources 156 = .ok (.aload_n 0, 1) := by decide +kernel
theorem dX7_sources_157 : decode cX7_sources 157 = .ok (.getfield 78, 3) := by decide +kernel
theorem dX7_sources_160 : decode cX7_sources 160 = .ok (.i2l, 1) := by decide +kernel
theorem dX7_sources_161 : decode cX7_sources 161 = .ok (.lreturn, 1) := by decide +kernel
theorem dX7_isSource_0 : decode cX7_isSource 0 = .ok (.iload_n 1, 1) := by decide +kernel
theorem dX7_isSource_1 : decode cX7_isSource 1 = .ok (.iconst 0, 1) := by decide +kernel
theorem dX7_isSource_2 : decode cX7_isSource 2 = .ok (.aload_n 0, 1) := by decide +kernel
theorem dX7_isSource_3 : decode cX7_isSource 3 = .ok (.getfield 78, 3) := by decide +kernel
theorem dX7_isSource_6 : decode cX7_isSource 6 = .ok (.iconst 1, 1) := by decide +kernel
theorem dX7_isSource_7 : decode cX7_isSource 7 = .ok (.isub, 1) := by decide +kernel
theorem dX7_isSource_8 : decode cX7_isSource 8 = .ok (.invokestatic 38, 3) := by decide +kernel
theorem dX7_isSource_11 : decode cX7_isSource 11 = .ok (.ireturn, 1) := by decide +kernel
theorem dX7_isTracer_0 : decode cX7_isTracer 0 = .ok (.iload_n 1, 1) := by decide +kernel
theorem dX7_isTracer_1 : decode cX7_isTracer 1 = .ok (.iconst 0, 1) := by decide +kernel
theorem dX7_isTracer_2 : decode cX7_isTracer 2 = .ok (.aload_n 0, 1) := by decide +kernel
theorem dX7_isTracer_3 : decode cX7_isTracer 3 = .ok (.getfield 81, 3) := by decide +kernel
theorem dX7_isTracer_6 : decode cX7_isTracer 6 = .ok (.iconst 1, 1) := by decide +kernel
theorem dX7_isTracer_7 : decode cX7_isTracer 7 = .ok (.isub, 1) := by decide +kernel
theorem dX7_isTracer_8 : decode cX7_isTracer 8 = .ok (.invokestatic 38, 3) := by decide +kernel
theorem dX7_isTracer_11 : decode cX7_isTracer 11 = .ok (.ireturn, 1) := by decide +kernel
theorem dX7_set_0 : decode cX7_set 0 = .ok (.aload_n 0, 1) := by decide +kernel
theorem dX7_set_1 : decode cX7_set 1 = .ok (.iload_n 1, 1) := by decide +kernel
theorem dX7_set_2 : decode cX7_set 2 = .ok (.invokevirtual 87, 3) := by decide +kernel
theorem dX7_set_5 : decode cX7_set 5 = .ok (.ifCond .ne 7, 3) := by decide +kernel
theorem dX7_set_8 : decode cX7_set 8 = .ok (.ldc2_w 90, 3) := by decide +kernel
theorem dX7_set_11 : decode cX7_set 11 = .ok (.lreturn, 1) := by decide +kernel
theorem dX7_set_12 : decode cX7_set 12 = .ok (.iload_n 2, 1) := by decide +kernel
theorem dX7_set_13 : decode cX7_set 13 = .ok (.ifCond .ne 13, 3) := by decide +kernel
theorem dX7_set_16 : decode cX7_set 16 = .ok (.iload_n 3, 1) := by decide +kernel
theorem dX7_set_17 : decode cX7_set 17 = .ok (.iconst 0, 1) := by decide +kernel
theorem dX7_set_18 : decode cX7_set 18 = .ok (.bipush 20, 2) := by decide +kernel
theorem dX7_set_20 : decode cX7_set 20 = .ok (.invokestatic 38, 3) := by decide +kernel
theorem dX7_set_23 : decode cX7_set 23 = .ok (.goto 22, 3) := by decide +kernel
theorem dX7_set_26 : decode cX7_set 26 = .ok (.iload_n 2, 1) := by decide +kernel
theorem dX7_set_27 : decode cX7_set 27 = .ok (.iconst 1, 1) := by decide +kernel
theorem dX7_set_28 : decode cX7_set 28 = .ok (.if_icmp .ne 16, 3) := by decide +kernel
theorem dX7_set_31 : decode cX7_set 31 = .ok (.iload_n 3, 1) := by decide +kernel
theorem dX7_set_32 : decode cX7_set 32 = .ok (.iconst 1, 1) := by decide +kernel
theorem dX7_set_33 : decode cX7_set 33 = .ok (.iconst 5, 1) := by decide +kernel
theorem dX7_set_34 : decode cX7_set 34 = .ok (.invokestatic 38, 3) := by decide +kernel
theorem dX7_set_37 : decode cX7_set 37 = .ok (.ifCond .eq 7, 3) := by decide +kernel
theorem dX7_set_40 : decode cX7_set 40 = .ok (.iconst 1, 1) := by decide +kernel
theorem dX7_set_41 : decode cX7_set 41 = .ok (.goto 4, 3) := by decide +kernel
theorem dX7_set_44 : decode cX7_set 44 = .ok (.iconst 0, 1) := by decide +kernel
theorem dX7_set_45 : decode cX7_set 45 = .ok (.istore 4, 2) := by decide +kernel
theorem dX7_set_47 : decode cX7_set 47 = .ok (.iload 4, 2) := by decide +kernel
theorem dX7_set_49 : decode cX7_set 49 = .ok (.ifCond .ne 7, 3) := by decide +kernel
theorem dX7_set_52 : decode cX7_set 52 = .ok (.ldc2_w 42, 3) := by decide +kernel
theorem dX7_set_55 : decode cX7_set 55 = .ok (.lreturn, 1) := by decide +kernel
theorem dX7_set_56 : decode cX7_set 56 = .ok (.iload_n 2, 1) := by decide +kernel
theorem dX7_set_57 : decode cX7_set 57 = .ok (.ifCond .ne 12, 3) := by decide +kernel
theorem dX7_set_60 : decode cX7_set 60 = .ok (.aload_n 0, 1) := by decide +kernel
theorem dX7_set_61 : decode cX7_set 61 = .ok (.getfield 16, 3) := by decide +kernel
theorem dX7_set_64 : decode cX7_set 64 = .ok (.iload_n 1, 1) := by decide +kernel
theorem dX7_set_65 : decode cX7_set 65 = .ok (.iaload, 1) := by decide +kernel
theorem dX7_set_66 : decode cX7_set 66 = .ok (.goto 9, 3) := by decide +kernel
theorem dX7_set_69 : decode cX7_set 69 = .ok (.aload_n 0, 1) := by decide +kernel
theorem dX7_set_70 : decode cX7_set 70 = .ok (.getfield 19, 3) := by decide +kernel
theorem dX7_set_73 : decode cX7_set 73 = .ok (.iload_n 1, 1) := by decide +kernel
theorem dX7_set_74 : decode cX7_set 74 = .ok (.iaload, 1) := by decide +kernel
theorem dX7_set_75 : decode cX7_set 75 = .ok (.istore 5, 2) := by decide +kernel
theorem dX7_set_77 : decode cX7_set 77 = .ok (.aload_n 0, 1) := by decide +kernel
theorem dX7_set_78 : decode cX7_set 78 = .ok (.getfield 16, 3) := by decide +kernel
theorem dX7_set_81 : decode cX7_set 81 = .ok (.iload_n 1, 1) := by decide +kernel
theorem dX7_set_82 : decode cX7_set 82 = .ok (.iload_n 2, 1) := by decide +kernel
theorem dX7_set_83 : decode cX7_set 83 = .ok (.ifCond .ne 7, 3) := by decide +kernel
theorem dX7_set_86 : decode cX7_set 86 = .ok (.iload_n 3, 1) := by decide +kernel
theorem dX7_set_87 : decode cX7_set 87 = .ok (.goto 9, 3) := by decide +kernel
theorem dX7_set_90 : decode cX7_set 90 = .ok (.aload_n 0, 1) := by decide +kernel
theorem dX7_set_91 : decode cX7_set 91 = .ok (.getfield 16, 3) := by decide +kernel
theorem dX7_set_94 : decode cX7_set 94 = .ok (.iload_n 1, 1) := by decide +kernel
theorem dX7_set_95 : decode cX7_set 95 = .ok (.iaload, 1) := by decide +kernel
theorem dX7_set_96 : decode cX7_set 96 = .ok (.iastore, 1) := by decide +kernel
theorem dX7_set_97 : decode cX7_set 97 = .ok (.aload_n 0, 1) := by decide +kernel
theorem dX7_set_98 : decode cX7_set 98 = .ok (.getfield 19, 3) := by decide +kernel
theorem dX7_set_101 : decode cX7_set 101 = .ok (.iload_n 1, 1) := by decide +kernel
theorem dX7_set_102 : decode cX7_set 102 = .ok (.iload_n 2, 1) := by decide +kernel
theorem dX7_set_103 : decode cX7_set 103 = .ok (.iconst 1, 1) := by decide +kernel
theorem dX7_set_104 : decode cX7_set 104 = .ok (.if_icmp .ne 7, 3) := by decide +kernel
theorem dX7_set_107 : decode cX7_set 107 = .ok (.iload_n 3, 1) := by decide +kernel
theorem dX7_set_108 : decode cX7_set 108 = .ok (.goto 9, 3) := by decide +kernel
theorem dX7_set_111 : decode cX7_set 111 = .ok (.aload_n 0, 1) := by decide +kernel
theorem dX7_set_112 : decode cX7_set 112 = .ok (.getfield 19, 3) := by decide +kernel
theorem dX7_set_115 : decode cX7_set 115 = .ok (.iload_n 1, 1) := by decide +kernel
theorem dX7_set_116 : decode cX7_set 116 = .ok (.iaload, 1) := by decide +kernel
theorem dX7_set_117 : decode cX7_set 117 = .ok (.iastore, 1) := by decide +kernel
theorem dX7_set_118 : decode cX7_set 118 = .ok (.aload_n 0, 1) := by decide +kernel
theorem dX7_set_119 : decode cX7_set 119 = .ok (.dup, 1) := by decide +kernel
theorem dX7_set_120 : decode cX7_set 120 = .ok (.getfield 92, 3) := by decide +kernel
theorem dX7_set_123 : decode cX7_set 123 = .ok (.iconst 1, 1) := by decide +kernel
theorem dX7_set_124 : decode cX7_set 124 = .ok (.iadd, 1) := by decide +kernel
theorem dX7_set_125 : decode cX7_set 125 = .ok (.putfield 92, 3) := by decide +kernel
theorem dX7_set_128 : decode cX7_set 128 = .ok (.iload 5, 2) := by decide +kernel
theorem dX7_set_130 : decode cX7_set 130 = .ok (.i2l, 1) := by decide +kernel
theorem dX7_set_131 : decode cX7_set 131 = .ok (.lreturn, 1) := by decide +kernel
theorem dX7_alter_0 : decode cX7_alter 0 = .ok (.aload_n 0, 1) := by decide +kernel
theorem dX7_alter_1 : decode cX7_alter 1 = .ok (.iload_n 1, 1) := by decide +kernel
theorem dX7_alter_2 : decode cX7_alter 2 = .ok (.invokevirtual 95, 3) := by decide +kernel
theorem dX7_alter_5 : decode cX7_alter 5 = .ok (.ifCond .eq 11, 3) := by decide +kernel
theorem dX7_alter_8 : decode cX7_alter 8 = .ok (.aload_n 0, 1) := by decide +kernel
theorem dX7_alter_9 : decode cX7_alter 9 = .ok (.iload_n 2, 1) := by decide +kernel
theorem dX7_alter_10 : decode cX7_alter 10 = .ok (.invokevirtual 87, 3) := by decide +kernel
theorem dX7_alter_13 : decode cX7_alter 13 = .ok (.ifCond .ne 7, 3) := by decide +kernel
theorem dX7_alter_16 : decode cX7_alter 16 = .ok (.ldc2_w 90, 3) := by decide +kernel
theorem dX7_alter_19 : decode cX7_alter 19 = .ok (.lreturn, 1) := by decide +kernel
theorem dX7_alter_20 : decode cX7_alter 20 = .ok (.iload_n 3, 1) := by decide +kernel
theorem dX7_alter_21 : decode cX7_alter 21 = .ok (.iconst 0, 1) := by decide +kernel
theorem dX7_alter_22 : decode cX7_alter 22 = .ok (.bipush 20, 2) := by decide +kernel
theorem dX7_alter_24 : decode cX7_alter 24 = .ok (.invokestatic 38, 3) := by decide +kernel
theorem dX7_alter_27 : decode cX7_alter 27 = .ok (.ifCond .ne 7, 3) := by decide +kernel
theorem dX7_alter_30 : decode cX7_alter 30 = .ok (.ldc2_w 42, 3) := by decide +kernel
theorem dX7_alter_33 : decode cX7_alter 33 = .ok (.lreturn, 1) := by decide +kernel
theorem dX7_alter_34 : decode cX7_alter 34 = .ok (.aload_n 0, 1) := by decide +kernel
theorem dX7_alter_35 : decode cX7_alter 35 = .ok (.getfield 13, 3) := by decide +kernel
theorem dX7_alter_38 : decode cX7_alter 38 = .ok (.iconst 4, 1) := by decide +kernel
theorem dX7_alter_39 : decode cX7_alter 39 = .ok (.iload_n 1, 1) := by decide +kernel
theorem dX7_alter_40 : decode cX7_alter 40 = .ok (.imul, 1) := by decide +kernel
theorem dX7_alter_41 : decode cX7_alter 41 = .ok (.iload_n 2, 1) := by decide +kernel
theorem dX7_alter_42 : decode cX7_alter 42 = .ok (.iadd, 1) := by decide +kernel
theorem dX7_alter_43 : decode cX7_alter 43 = .ok (.iaload, 1) := by decide +kernel
theorem dX7_alter_44 : decode cX7_alter 44 = .ok (.istore 4, 2) := by decide +kernel
theorem dX7_alter_46 : decode cX7_alter 46 = .ok (.aload_n 0, 1) := by decide +kernel
theorem dX7_alter_47 : decode cX7_alter 47 = .ok (.getfield 13, 3) := by decide +kernel
theorem dX7_alter_50 : decode cX7_alter 50 = .ok (.iconst 4, 1) := by decide +kernel
theorem dX7_alter_51 : decode cX7_alter 51 = .ok (.iload_n 1, 1) := by decide +kernel
theorem dX7_alter_52 : decode cX7_alter 52 = .ok (.imul, 1) := by decide +kernel
theorem dX7_alter_53 : decode cX7_alter 53 = .ok (.iload_n 2, 1) := by decide +kernel
theorem dX7_alter_54 : decode cX7_alter 54 = .ok (.iadd, 1) := by decide +kernel
theorem dX7_alter_55 : decode cX7_alter 55 = .ok (.iload_n 3, 1) := by decide +kernel
theorem dX7_alter_56 : decode cX7_alter 56 = .ok (.iastore, 1) := by decide +kernel
theorem dX7_alter_57 : decode cX7_alter 57 = .ok (.aload_n 0, 1) := by decide +kernel
theorem dX7_alter_58 : decode cX7_alter 58 = .ok (.dup, 1) := by decide +kernel
theorem dX7_alter_59 : decode cX7_alter 59 = .ok (.getfield 92, 3) := by decide +kernel
theorem dX7_alter_62 : decode cX7_alter 62 = .ok (.iconst 1, 1) := by decide +kernel
theorem dX7_alter_63 : decode cX7_alter 63 = .ok (.iadd, 1) := by decide +kernel
theorem dX7_alter_64 : decode cX7_alter 64 = .ok (.putfield 92, 3) := by decide +kernel
theorem dX7_alter_67 : decode cX7_alter 67 = .ok (.iload 4, 2) := by decide +kernel
theorem dX7_alter_69 : decode cX7_alter 69 = .ok (.i2l, 1) := by decide +kernel
theorem dX7_alter_70 : decode cX7_alter 70 = .ok (.lreturn, 1) := by decide +kernel
theorem dX7_sumBy_0 : decode cX7_sumBy 0 = .ok (.iconst 0, 1) := by decide +kernel
theorem dX7_sumBy_1 : decode cX7_sumBy 1 = .ok (.istore_n 3, 1) := by decide +kernel
theorem dX7_sumBy_2 : decode cX7_sumBy 2 = .ok (.iload_n 2, 1) := by decide +kernel
theorem dX7_sumBy_3 : decode cX7_sumBy 3 = .ok (.istore 4, 2) := by decide +kernel
theorem dX7_sumBy_5 : decode cX7_sumBy 5 = .ok (.iconst 0, 1) := by decide +kernel
theorem dX7_sumBy_6 : decode cX7_sumBy 6 = .ok (.istore 5, 2) := by decide +kernel
theorem dX7_sumBy_8 : decode cX7_sumBy 8 = .ok (.iload 5, 2) := by decide +kernel
theorem dX7_sumBy_10 : decode cX7_sumBy 10 = .ok (.aload_n 0, 1) := by decide +kernel
theorem dX7_sumBy_11 : decode cX7_sumBy 11 = .ok (.getfield 78, 3) := by decide +kernel
theorem dX7_sumBy_14 : decode cX7_sumBy 14 = .ok (.if_icmp .ge 36, 3) := by decide +kernel
theorem dX7_sumBy_17 : decode cX7_sumBy 17 = .ok (.iload_n 3, 1) := by decide +kernel
theorem dX7_sumBy_18 : decode cX7_sumBy 18 = .ok (.iload 4, 2) := by decide +kernel
theorem dX7_sumBy_20 : decode cX7_sumBy 20 = .ok (.bipush 10, 2) := by decide +kernel
theorem dX7_sumBy_22 : decode cX7_sumBy 22 = .ok (.irem, 1) := by decide +kernel
theorem dX7_sumBy_23 : decode cX7_sumBy 23 = .ok (.aload_n 0, 1) := by decide +kernel
theorem dX7_sumBy_24 : decode cX7_sumBy 24 = .ok (.getfield 13, 3) := by decide +kernel
theorem dX7_sumBy_27 : decode cX7_sumBy 27 = .ok (.iconst 4, 1) := by decide +kernel
theorem dX7_sumBy_28 : decode cX7_sumBy 28 = .ok (.iload 5, 2) := by decide +kernel
theorem dX7_sumBy_30 : decode cX7_sumBy 30 = .ok (.imul, 1) := by decide +kernel
theorem dX7_sumBy_31 : decode cX7_sumBy 31 = .ok (.iload_n 1, 1) := by decide +kernel
theorem dX7_sumBy_32 : decode cX7_sumBy 32 = .ok (.iadd, 1) := by decide +kernel
theorem dX7_sumBy_33 : decode cX7_sumBy 33 = .ok (.iaload, 1) := by decide +kernel
theorem dX7_sumBy_34 : decode cX7_sumBy 34 = .ok (.imul, 1) := by decide +kernel
theorem dX7_sumBy_35 : decode cX7_sumBy 35 = .ok (.iadd, 1) := by decide +kernel
theorem dX7_sumBy_36 : decode cX7_sumBy 36 = .ok (.istore_n 3, 1) := by decide +kernel
theorem dX7_sumBy_37 : decode cX7_sumBy 37 = .ok (.iload 4, 2) := by decide +kernel
theorem dX7_sumBy_39 : decode cX7_sumBy 39 = .ok (.bipush 10, 2) := by decide +kernel
theorem dX7_sumBy_41 : decode cX7_sumBy 41 = .ok (.idiv, 1) := by decide +kernel
theorem dX7_sumBy_42 : decode cX7_sumBy 42 = .ok (.istore 4, 2) := by decide +kernel
theorem dX7_sumBy_44 : decode cX7_sumBy 44 = .ok (.iinc 5 1, 3) := by decide +kernel
theorem dX7_sumBy_47 : decode cX7_sumBy 47 = .ok (.goto (-39), 3) := by decide +kernel
theorem dX7_sumBy_50 : decode cX7_sumBy 50 = .ok (.iload_n 3, 1) := by decide +kernel
theorem dX7_sumBy_51 : decode cX7_sumBy 51 = .ok (.ireturn, 1) := by decide +kernel
theorem dX7_made_0 : decode cX7_made 0 = .ok (.aload_n 0, 1) := by decide +kernel
theorem dX7_made_1 : decode cX7_made 1 = .ok (.getfield 78, 3) := by decide +kernel
theorem dX7_made_4 : decode cX7_made 4 = .ok (.ifCond .ne 7, 3) := by decide +kernel
theorem dX7_made_7 : decode cX7_made 7 = .ok (.ldc2_w 76, 3) := by decide +kernel
theorem dX7_made_10 : decode cX7_made 10 = .ok (.lreturn, 1) := by decide +kernel
theorem dX7_made_11 : decode cX7_made 11 = .ok (.iconst 0, 1) := by decide +kernel
theorem dX7_made_12 : decode cX7_made 12 = .ok (.istore_n 2, 1) := by decide +kernel
theorem dX7_made_13 : decode cX7_made 13 = .ok (.iconst 1, 1) := by decide +kernel
theorem dX7_made_14 : decode cX7_made 14 = .ok (.istore_n 3, 1) := by decide +kernel
theorem dX7_made_15 : decode cX7_made 15 = .ok (.iconst 0, 1) := by decide +kernel
theorem dX7_made_16 : decode cX7_made 16 = .ok (.istore 4, 2) := by decide +kernel
theorem dX7_made_18 : decode cX7_made 18 = .ok (.iload 4, 2) := by decide +kernel
theorem dX7_made_20 : decode cX7_made 20 = .ok (.aload_n 0, 1) := by decide +kernel
theorem dX7_made_21 : decode cX7_made 21 = .ok (.getfield 78, 3) := by decide +kernel
theorem dX7_made_24 : decode cX7_made 24 = .ok (.if_icmp .ge 23, 3) := by decide +kernel
theorem dX7_made_27 : decode cX7_made 27 = .ok (.iload_n 2, 1) := by decide +kernel
theorem dX7_made_28 : decode cX7_made 28 = .ok (.iload_n 1, 1) := by decide +kernel
theorem dX7_made_29 : decode cX7_made 29 = .ok (.iload_n 3, 1) := by decide +kernel
theorem dX7_made_30 : decode cX7_made 30 = .ok (.idiv, 1) := by decide +kernel
theorem dX7_made_31 : decode cX7_made 31 = .ok (.bipush 10, 2) := by decide +kernel
theorem dX7_made_33 : decode cX7_made 33 = .ok (.irem, 1) := by decide +kernel
theorem dX7_made_34 : decode cX7_made 34 = .ok (.iadd, 1) := by decide +kernel
theorem dX7_made_35 : decode cX7_made 35 = .ok (.istore_n 2, 1) := by decide +kernel
theorem dX7_made_36 : decode cX7_made 36 = .ok (.iload_n 3, 1) := by decide +kernel
theorem dX7_made_37 : decode cX7_made 37 = .ok (.bipush 10, 2) := by decide +kernel
theorem dX7_made_39 : decode cX7_made 39 = .ok (.imul, 1) := by decide +kernel
theorem dX7_made_40 : decode cX7_made 40 = .ok (.istore_n 3, 1) := by decide +kernel
theorem dX7_made_41 : decode cX7_made 41 = .ok (.iinc 4 1, 3) := by decide +kernel
theorem dX7_made_44 : decode cX7_made 44 = .ok (.goto (-26), 3) := by decide +kernel
theorem dX7_made_47 : decode cX7_made 47 = .ok (.iload_n 1, 1) := by decide +kernel
theorem dX7_made_48 : decode cX7_made 48 = .ok (.iconst 1, 1) := by decide +kernel
theorem dX7_made_49 : decode cX7_made 49 = .ok (.iload_n 3, 1) := by decide +kernel
theorem dX7_made_50 : decode cX7_made 50 = .ok (.iconst 1, 1) := by decide +kernel
theorem dX7_made_51 : decode cX7_made 51 = .ok (.isub, 1) := by decide +kernel
theorem dX7_made_52 : decode cX7_made 52 = .ok (.invokestatic 38, 3) := by decide +kernel
theorem dX7_made_55 : decode cX7_made 55 = .ok (.ifCond .ne 7, 3) := by decide +kernel
theorem dX7_made_58 : decode cX7_made 58 = .ok (.ldc2_w 42, 3) := by decide +kernel
theorem dX7_made_61 : decode cX7_made 61 = .ok (.lreturn, 1) := by decide +kernel
theorem dX7_made_62 : decode cX7_made 62 = .ok (.iconst 0, 1) := by decide +kernel
theorem dX7_made_63 : decode cX7_made 63 = .ok (.istore 4, 2) := by decide +kernel
theorem dX7_made_65 : decode cX7_made 65 = .ok (.iload 4, 2) := by decide +kernel
theorem dX7_made_67 : decode cX7_made 67 = .ok (.aload_n 0, 1) := by decide +kernel
theorem dX7_made_68 : decode cX7_made 68 = .ok (.getfield 81, 3) := by decide +kernel
theorem dX7_made_71 : decode cX7_made 71 = .ok (.if_icmp .ge 25, 3) := by decide +kernel
theorem dX7_made_74 : decode cX7_made 74 = .ok (.aload_n 0, 1) := by decide +kernel
theorem dX7_made_75 : decode cX7_made 75 = .ok (.iload 4, 2) := by decide +kernel
theorem dX7_made_77 : decode cX7_made 77 = .ok (.iload_n 1, 1) := by decide +kernel
theorem dX7_made_78 : decode cX7_made 78 = .ok (.invokevirtual 98, 3) := by decide +kernel
theorem dX7_made_81 : decode cX7_made 81 = .ok (.iload_n 2, 1) := by decide +kernel
theorem dX7_made_82 : decode cX7_made 82 = .ok (.irem, 1) := by decide +kernel
theorem dX7_made_83 : decode cX7_made 83 = .ok (.ifCond .eq 7, 3) := by decide +kernel
theorem dX7_made_86 : decode cX7_made 86 = .ok (.ldc2_w 76, 3) := by decide +kernel
theorem dX7_made_89 : decode cX7_made 89 = .ok (.lreturn, 1) := by decide +kernel
theorem dX7_made_90 : decode cX7_made 90 = .ok (.iinc 4 1, 3) := by decide +kernel
theorem dX7_made_93 : decode cX7_made 93 = .ok (.goto (-28), 3) := by decide +kernel
theorem dX7_made_96 : decode cX7_made 96 = .ok (.iconst 0, 1) := by decide +kernel
theorem dX7_made_97 : decode cX7_made 97 = .ok (.istore 4, 2) := by decide +kernel
theorem dX7_made_99 : decode cX7_made 99 = .ok (.iload 4, 2) := by decide +kernel
theorem dX7_made_101 : decode cX7_made 101 = .ok (.aload_n 0, 1) := by decide +kernel
theorem dX7_made_102 : decode cX7_made 102 = .ok (.getfield 81, 3) := by decide +kernel
theorem dX7_made_105 : decode cX7_made 105 = .ok (.if_icmp .ge 25, 3) := by decide +kernel
theorem dX7_made_108 : decode cX7_made 108 = .ok (.aload_n 0, 1) := by decide +kernel
theorem dX7_made_109 : decode cX7_made 109 = .ok (.getfield 16, 3) := by decide +kernel
theorem dX7_made_112 : decode cX7_made 112 = .ok (.iload 4, 2) := by decide +kernel
theorem dX7_made_114 : decode cX7_made 114 = .ok (.aload_n 0, 1) := by decide +kernel
theorem dX7_made_115 : decode cX7_made 115 = .ok (.iload 4, 2) := by decide +kernel
theorem dX7_made_117 : decode cX7_made 117 = .ok (.iload_n 1, 1) := by decide +kernel
theorem dX7_made_118 : decode cX7_made 118 = .ok (.invokevirtual 98, 3) := by decide +kernel
theorem dX7_made_121 : decode cX7_made 121 = .ok (.iload_n 2, 1) := by decide +kernel
theorem dX7_made_122 : decode cX7_made 122 = .ok (.idiv, 1) := by decide +kernel
theorem dX7_made_123 : decode cX7_made 123 = .ok (.iastore, 1) := by decide +kernel
theorem dX7_made_124 : decode cX7_made 124 = .ok (.iinc 4 1, 3) := by decide +kernel
theorem dX7_made_127 : decode cX7_made 127 = .ok (.goto (-28), 3) := by decide +kernel
theorem dX7_made_130 : decode cX7_made 130 = .ok (.aload_n 0, 1) := by decide +kernel
theorem dX7_made_131 : decode cX7_made 131 = .ok (.dup, 1) := by decide +kernel
theorem dX7_made_132 : decode cX7_made 132 = .ok (.getfield 92, 3) := by decide +kernel
theorem dX7_made_135 : decode cX7_made 135 = .ok (.iconst 1, 1) := by decide +kernel
theorem dX7_made_136 : decode cX7_made 136 = .ok (.iadd, 1) := by decide +kernel
theorem dX7_made_137 : decode cX7_made 137 = .ok (.putfield 92, 3) := by decide +kernel
theorem dX7_made_140 : decode cX7_made 140 = .ok (.iload_n 2, 1) := by decide +kernel
theorem dX7_made_141 : decode cX7_made 141 = .ok (.i2l, 1) := by decide +kernel
theorem dX7_made_142 : decode cX7_made 142 = .ok (.lreturn, 1) := by decide +kernel
theorem dX7_hasNow_0 : decode cX7_hasNow 0 = .ok (.aload_n 0, 1) := by decide +kernel
theorem dX7_hasNow_1 : decode cX7_hasNow 1 = .ok (.iload_n 2, 1) := by decide +kernel
theorem dX7_hasNow_2 : decode cX7_hasNow 2 = .ok (.invokevirtual 87, 3) := by decide +kernel
theorem dX7_hasNow_5 : decode cX7_hasNow 5 = .ok (.ifCond .eq 17, 3) := by decide +kernel
theorem dX7_hasNow_8 : decode cX7_hasNow 8 = .ok (.aload_n 0, 1) := by decide +kernel
theorem dX7_hasNow_9 : decode cX7_hasNow 9 = .ok (.getfield 13, 3) := by decide +kernel
theorem dX7_hasNow_12 : decode cX7_hasNow 12 = .ok (.iconst 4, 1) := by decide +kernel
theorem dX7_hasNow_13 : decode cX7_hasNow 13 = .ok (.iload_n 1, 1) := by decide +kernel
theorem dX7_hasNow_14 : decode cX7_hasNow 14 = .ok (.imul, 1) := by decide +kernel
theorem dX7_hasNow_15 : decode cX7_hasNow 15 = .ok (.iload_n 2, 1) := by decide +kernel
theorem dX7_hasNow_16 : decode cX7_hasNow 16 = .ok (.iadd, 1) := by decide +kernel
theorem dX7_hasNow_17 : decode cX7_hasNow 17 = .ok (.iaload, 1) := by decide +kernel
theorem dX7_hasNow_18 : decode cX7_hasNow 18 = .ok (.i2l, 1) := by decide +kernel
theorem dX7_hasNow_19 : decode cX7_hasNow 19 = .ok (.goto 6, 3) := by decide +kernel
theorem dX7_hasNow_22 : decode cX7_hasNow 22 = .ok (.ldc2_w 102, 3) := by decide +kernel
theorem dX7_hasNow_25 : decode cX7_hasNow 25 = .ok (.lreturn, 1) := by decide +kernel
theorem dX7_has_0 : decode cX7_has 0 = .ok (.aload_n 0, 1) := by decide +kernel
theorem dX7_has_1 : decode cX7_has 1 = .ok (.iload_n 1, 1) := by decide +kernel
theorem dX7_has_2 : decode cX7_has 2 = .ok (.invokevirtual 95, 3) := by decide +kernel
theorem dX7_has_5 : decode cX7_has 5 = .ok (.ifCond .ne 7, 3) := by decide +kernel
theorem dX7_has_8 : decode cX7_has 8 = .ok (.ldc2_w 90, 3) := by decide +kernel
theorem dX7_has_11 : decode cX7_has 11 = .ok (.lreturn, 1) := by decide +kernel
theorem dX7_has_12 : decode cX7_has 12 = .ok (.iload_n 2, 1) := by decide +kernel
theorem dX7_has_13 : decode cX7_has 13 = .ok (.iconst 0, 1) := by decide +kernel
theorem dX7_has_14 : decode cX7_has 14 = .ok (.iconst 3, 1) := by decide +kernel
theorem dX7_has_15 : decode cX7_has 15 = .ok (.invokestatic 38, 3) := by decide +kernel
theorem dX7_has_18 : decode cX7_has 18 = .ok (.ifCond .eq 12, 3) := by decide +kernel
theorem dX7_has_21 : decode cX7_has 21 = .ok (.aload_n 0, 1) := by decide +kernel
theorem dX7_has_22 : decode cX7_has 22 = .ok (.iload_n 1, 1) := by decide +kernel
theorem dX7_has_23 : decode cX7_has 23 = .ok (.iload_n 2, 1) := by decide +kernel
theorem dX7_has_24 : decode cX7_has 24 = .ok (.invokevirtual 104, 3) := by decide +kernel
theorem dX7_has_27 : decode cX7_has 27 = .ok (.goto 6, 3) := by decide +kernel
theorem dX7_has_30 : decode cX7_has 30 = .ok (.ldc2_w 42, 3) := by decide +kernel
theorem dX7_has_33 : decode cX7_has 33 = .ok (.lreturn, 1) := by decide +kernel
theorem dX7_tracer_0 : decode cX7_tracer 0 = .ok (.aload_n 0, 1) := by decide +kernel
theorem dX7_tracer_1 : decode cX7_tracer 1 = .ok (.iload_n 1, 1) := by decide +kernel
theorem dX7_tracer_2 : decode cX7_tracer 2 = .ok (.invokevirtual 87, 3) := by decide +kernel
theorem dX7_tracer_5 : decode cX7_tracer 5 = .ok (.ifCond .ne 7, 3) := by decide +kernel
theorem dX7_tracer_8 : decode cX7_tracer 8 = .ok (.ldc2_w 90, 3) := by decide +kernel
theorem dX7_tracer_11 : decode cX7_tracer 11 = .ok (.lreturn, 1) := by decide +kernel
theorem dX7_tracer_12 : decode cX7_tracer 12 = .ok (.iload_n 2, 1) := by decide +kernel
theorem dX7_tracer_13 : decode cX7_tracer 13 = .ok (.ifCond .ne 13, 3) := by decide +kernel
theorem dX7_tracer_16 : decode cX7_tracer 16 = .ok (.aload_n 0, 1) := by decide +kernel
theorem dX7_tracer_17 : decode cX7_tracer 17 = .ok (.getfield 16, 3) := by decide +kernel
theorem dX7_tracer_20 : decode cX7_tracer 20 = .ok (.iload_n 1, 1) := by decide +kernel
theorem dX7_tracer_21 : decode cX7_tracer 21 = .ok (.iaload, 1) := by decide +kernel
theorem dX7_tracer_22 : decode cX7_tracer 22 = .ok (.i2l, 1) := by decide +kernel
theorem dX7_tracer_23 : decode cX7_tracer 23 = .ok (.goto 21, 3) := by decide +kernel
theorem dX7_tracer_26 : decode cX7_tracer 26 = .ok (.iload_n 2, 1) := by decide +kernel
theorem dX7_tracer_27 : decode cX7_tracer 27 = .ok (.iconst 1, 1) := by decide +kernel
theorem dX7_tracer_28 : decode cX7_tracer 28 = .ok (.if_icmp .ne 13, 3) := by decide +kernel
theorem dX7_tracer_31 : decode cX7_tracer 31 = .ok (.aload_n 0, 1) := by decide +kernel
theorem dX7_tracer_32 : decode cX7_tracer 32 = .ok (.getfield 19, 3) := by decide +kernel
theorem dX7_tracer_35 : decode cX7_tracer 35 = .ok (.iload_n 1, 1) := by decide +kernel
theorem dX7_tracer_36 : decode cX7_tracer 36 = .ok (.iaload, 1) := by decide +kernel
theorem dX7_tracer_37 : decode cX7_tracer 37 = .ok (.i2l, 1) := by decide +kernel
theorem dX7_tracer_38 : decode cX7_tracer 38 = .ok (.goto 6, 3) := by decide +kernel
theorem dX7_tracer_41 : decode cX7_tracer 41 = .ok (.ldc2_w 42, 3) := by decide +kernel
theorem dX7_tracer_44 : decode cX7_tracer 44 = .ok (.lreturn, 1) := by decide +kernel
theorem dX7_isUsed_0 : decode cX7_isUsed 0 = .ok (.iload_n 1, 1) := by decide +kernel
theorem dX7_isUsed_1 : decode cX7_isUsed 1 = .ok (.iconst 1, 1) := by decide +kernel
theorem dX7_isUsed_2 : decode cX7_isUsed 2 = .ok (.iconst 1, 1) := by decide +kernel
theorem dX7_isUsed_3 : decode cX7_isUsed 3 = .ok (.aload_n 0, 1) := by decide +kernel
theorem dX7_isUsed_4 : decode cX7_isUsed 4 = .ok (.getfield 81, 3) := by decide +kernel
theorem dX7_isUsed_7 : decode cX7_isUsed 7 = .ok (.ishl, 1) := by decide +kernel
theorem dX7_isUsed_8 : decode cX7_isUsed 8 = .ok (.iconst 1, 1) := by decide +kernel
theorem dX7_isUsed_9 : decode cX7_isUsed 9 = .ok (.isub, 1) := by decide +kernel
theorem dX7_isUsed_10 : decode cX7_isUsed 10 = .ok (.invokestatic 38, 3) := by decide +kernel
theorem dX7_isUsed_13 : decode cX7_isUsed 13 = .ok (.ireturn, 1) := by decide +kernel
theorem dX7_areAlike_0 : decode cX7_areAlike 0 = .ok (.iconst 1, 1) := by decide +kernel
theorem dX7_areAlike_1 : decode cX7_areAlike 1 = .ok (.istore 4, 2) := by decide +kernel
theorem dX7_areAlike_3 : decode cX7_areAlike 3 = .ok (.iconst 0, 1) := by decide +kernel
theorem dX7_areAlike_4 : decode cX7_areAlike 4 = .ok (.istore 5, 2) := by decide +kernel
theorem dX7_areAlike_6 : decode cX7_areAlike 6 = .ok (.iload 5, 2) := by decide +kernel
theorem dX7_areAlike_8 : decode cX7_areAlike 8 = .ok (.aload_n 0, 1) := by decide +kernel
theorem dX7_areAlike_9 : decode cX7_areAlike 9 = .ok (.getfield 81, 3) := by decide +kernel
theorem dX7_areAlike_12 : decode cX7_areAlike 12 = .ok (.if_icmp .ge 55, 3) := by decide +kernel
theorem dX7_areAlike_15 : decode cX7_areAlike 15 = .ok (.iload 4, 2) := by decide +kernel
theorem dX7_areAlike_17 : decode cX7_areAlike 17 = .ok (.ifCond .eq 41, 3) := by decide +kernel
theorem dX7_areAlike_20 : decode cX7_areAlike 20 = .ok (.iload_n 3, 1) := by decide +kernel
theorem dX7_areAlike_21 : decode cX7_areAlike 21 = .ok (.iload 5, 2) := by decide +kernel
theorem dX7_areAlike_23 : decode cX7_areAlike 23 = .ok (.invokestatic 108, 3) := by decide +kernel
theorem dX7_areAlike_26 : decode cX7_areAlike 26 = .ok (.ifCond .eq 28, 3) := by decide +kernel
theorem dX7_areAlike_29 : decode cX7_areAlike 29 = .ok (.aload_n 0, 1) := by decide +kernel
theorem dX7_areAlike_30 : decode cX7_areAlike 30 = .ok (.getfield 13, 3) := by decide +kernel
theorem dX7_areAlike_33 : decode cX7_areAlike 33 = .ok (.iconst 4, 1) := by decide +kernel
theorem dX7_areAlike_34 : decode cX7_areAlike 34 = .ok (.iload_n 1, 1) := by decide +kernel
theorem dX7_areAlike_35 : decode cX7_areAlike 35 = .ok (.imul, 1) := by decide +kernel
theorem dX7_areAlike_36 : decode cX7_areAlike 36 = .ok (.iload 5, 2) := by decide +kernel
theorem dX7_areAlike_38 : decode cX7_areAlike 38 = .ok (.iadd, 1) := by decide +kernel
theorem dX7_areAlike_39 : decode cX7_areAlike 39 = .ok (.iaload, 1) := by decide +kernel
theorem dX7_areAlike_40 : decode cX7_areAlike 40 = .ok (.aload_n 0, 1) := by decide +kernel
theorem dX7_areAlike_41 : decode cX7_areAlike 41 = .ok (.getfield 13, 3) := by decide +kernel
theorem dX7_areAlike_44 : decode cX7_areAlike 44 = .ok (.iconst 4, 1) := by decide +kernel
theorem dX7_areAlike_45 : decode cX7_areAlike 45 = .ok (.iload_n 2, 1) := by decide +kernel
theorem dX7_areAlike_46 : decode cX7_areAlike 46 = .ok (.imul, 1) := by decide +kernel
theorem dX7_areAlike_47 : decode cX7_areAlike 47 = .ok (.iload 5, 2) := by decide +kernel
theorem dX7_areAlike_49 : decode cX7_areAlike 49 = .ok (.iadd, 1) := by decide +kernel
theorem dX7_areAlike_50 : decode cX7_areAlike 50 = .ok (.iaload, 1) := by decide +kernel
theorem dX7_areAlike_51 : decode cX7_areAlike 51 = .ok (.if_icmp .ne 7, 3) := by decide +kernel
theorem dX7_areAlike_54 : decode cX7_areAlike 54 = .ok (.iconst 1, 1) := by decide +kernel
theorem dX7_areAlike_55 : decode cX7_areAlike 55 = .ok (.goto 4, 3) := by decide +kernel
theorem dX7_areAlike_58 : decode cX7_areAlike 58 = .ok (.iconst 0, 1) := by decide +kernel
theorem dX7_areAlike_59 : decode cX7_areAlike 59 = .ok (.istore 4, 2) := by decide +kernel
theorem dX7_areAlike_61 : decode cX7_areAlike 61 = .ok (.iinc 5 1, 3) := by decide +kernel
theorem dX7_areAlike_64 : decode cX7_areAlike 64 = .ok (.goto (-58), 3) := by decide +kernel
theorem dX7_areAlike_67 : decode cX7_areAlike 67 = .ok (.iload 4, 2) := by decide +kernel
theorem dX7_areAlike_69 : decode cX7_areAlike 69 = .ok (.ireturn, 1) := by decide +kernel
theorem dX7_alikeOf_0 : decode cX7_alikeOf 0 = .ok (.iload_n 1, 1) := by decide +kernel
theorem dX7_alikeOf_1 : decode cX7_alikeOf 1 = .ok (.istore_n 3, 1) := by decide +kernel
theorem dX7_alikeOf_2 : decode cX7_alikeOf 2 = .ok (.iload_n 1, 1) := by decide +kernel
theorem dX7_alikeOf_3 : decode cX7_alikeOf 3 = .ok (.istore 4, 2) := by decide +kernel
theorem dX7_alikeOf_5 : decode cX7_alikeOf 5 = .ok (.iload 4, 2) := by decide +kernel
theorem dX7_alikeOf_7 : decode cX7_alikeOf 7 = .ok (.ifCond .lt 27, 3) := by decide +kernel
theorem dX7_alikeOf_10 : decode cX7_alikeOf 10 = .ok (.aload_n 0, 1) := by decide +kernel
theorem dX7_alikeOf_11 : decode cX7_alikeOf 11 = .ok (.iload 4, 2) := by decide +kernel
theorem dX7_alikeOf_13 : decode cX7_alikeOf 13 = .ok (.iload_n 1, 1) := by decide +kernel
theorem dX7_alikeOf_14 : decode cX7_alikeOf 14 = .ok (.iload_n 2, 1) := by decide +kernel
theorem dX7_alikeOf_15 : decode cX7_alikeOf 15 = .ok (.invokevirtual 112, 3) := by decide +kernel
theorem dX7_alikeOf_18 : decode cX7_alikeOf 18 = .ok (.ifCond .eq 8, 3) := by decide +kernel
theorem dX7_alikeOf_21 : decode cX7_alikeOf 21 = .ok (.iload 4, 2) := by decide +kernel
theorem dX7_alikeOf_23 : decode cX7_alikeOf 23 = .ok (.goto 4, 3) := by decide +kernel
theorem dX7_alikeOf_26 : decode cX7_alikeOf 26 = .ok (.iload_n 3, 1) := by decide +kernel
theorem dX7_alikeOf_27 : decode cX7_alikeOf 27 = .ok (.istore_n 3, 1) := by decide +kernel
theorem dX7_alikeOf_28 : decode cX7_alikeOf 28 = .ok (.iinc 4 (-1), 3) := by decide +kernel
theorem dX7_alikeOf_31 : decode cX7_alikeOf 31 = .ok (.goto (-26), 3) := by decide +kernel
theorem dX7_alikeOf_34 : decode cX7_alikeOf 34 = .ok (.iload_n 3, 1) := by decide +kernel
theorem dX7_alikeOf_35 : decode cX7_alikeOf 35 = .ok (.ireturn, 1) := by decide +kernel
theorem dX7_alike_0 : decode cX7_alike 0 = .ok (.aload_n 0, 1) := by decide +kernel
theorem dX7_alike_1 : decode cX7_alike 1 = .ok (.iload_n 1, 1) := by decide +kernel
theorem dX7_alike_2 : decode cX7_alike 2 = .ok (.invokevirtual 95, 3) := by decide +kernel
theorem dX7_alike_5 : decode cX7_alike 5 = .ok (.ifCond .ne 7, 3) := by decide +kernel
theorem dX7_alike_8 : decode cX7_alike 8 = .ok (.ldc2_w 90, 3) := by decide +kernel
theorem dX7_alike_11 : decode cX7_alike 11 = .ok (.lreturn, 1) := by decide +kernel
theorem dX7_alike_12 : decode cX7_alike 12 = .ok (.aload_n 0, 1) := by decide +kernel
theorem dX7_alike_13 : decode cX7_alike 13 = .ok (.iload_n 2, 1) := by decide +kernel
theorem dX7_alike_14 : decode cX7_alike 14 = .ok (.invokevirtual 115, 3) := by decide +kernel
theorem dX7_alike_17 : decode cX7_alike 17 = .ok (.ifCond .eq 13, 3) := by decide +kernel
theorem dX7_alike_20 : decode cX7_alike 20 = .ok (.aload_n 0, 1) := by decide +kernel
theorem dX7_alike_21 : decode cX7_alike 21 = .ok (.iload_n 1, 1) := by decide +kernel
theorem dX7_alike_22 : decode cX7_alike 22 = .ok (.iload_n 2, 1) := by decide +kernel
theorem dX7_alike_23 : decode cX7_alike 23 = .ok (.invokevirtual 118, 3) := by decide +kernel
theorem dX7_alike_26 : decode cX7_alike 26 = .ok (.i2l, 1) := by decide +kernel
theorem dX7_alike_27 : decode cX7_alike 27 = .ok (.goto 6, 3) := by decide +kernel
theorem dX7_alike_30 : decode cX7_alike 30 = .ok (.ldc2_w 42, 3) := by decide +kernel
theorem dX7_alike_33 : decode cX7_alike 33 = .ok (.lreturn, 1) := by decide +kernel
theorem dX7_apart_0 : decode cX7_apart 0 = .ok (.aload_n 0, 1) := by decide +kernel
theorem dX7_apart_1 : decode cX7_apart 1 = .ok (.getfield 13, 3) := by decide +kernel
theorem dX7_apart_4 : decode cX7_apart 4 = .ok (.iconst 4, 1) := by decide +kernel
theorem dX7_apart_5 : decode cX7_apart 5 = .ok (.aload_n 0, 1) := by decide +kernel
theorem dX7_apart_6 : decode cX7_apart 6 = .ok (.getfield 25, 3) := by decide +kernel
theorem dX7_apart_9 : decode cX7_apart 9 = .ok (.iload_n 1, 1) := by decide +kernel
theorem dX7_apart_10 : decode cX7_apart 10 = .ok (.iaload, 1) := by decide +kernel
theorem dX7_apart_11 : decode cX7_apart 11 = .ok (.imul, 1) := by decide +kernel
theorem dX7_apart_12 : decode cX7_apart 12 = .ok (.iload_n 2, 1) := by decide +kernel
theorem dX7_apart_13 : decode cX7_apart 13 = .ok (.iadd, 1) := by decide +kernel
theorem dX7_apart_14 : decode cX7_apart 14 = .ok (.iaload, 1) := by decide +kernel
theorem dX7_apart_15 : decode cX7_apart 15 = .ok (.aload_n 0, 1) := by decide +kernel
theorem dX7_apart_16 : decode cX7_apart 16 = .ok (.getfield 13, 3) := by decide +kernel
theorem dX7_apart_19 : decode cX7_apart 19 = .ok (.iconst 4, 1) := by decide +kernel
theorem dX7_apart_20 : decode cX7_apart 20 = .ok (.aload_n 0, 1) := by decide +kernel
theorem dX7_apart_21 : decode cX7_apart 21 = .ok (.getfield 25, 3) := by decide +kernel
theorem dX7_apart_24 : decode cX7_apart 24 = .ok (.iconst 0, 1) := by decide +kernel
theorem dX7_apart_25 : decode cX7_apart 25 = .ok (.iaload, 1) := by decide +kernel
theorem dX7_apart_26 : decode cX7_apart 26 = .ok (.imul, 1) := by decide +kernel
theorem dX7_apart_27 : decode cX7_apart 27 = .ok (.iload_n 2, 1) := by decide +kernel
theorem dX7_apart_28 : decode cX7_apart 28 = .ok (.iadd, 1) := by decide +kernel
theorem dX7_apart_29 : decode cX7_apart 29 = .ok (.iaload, 1) := by decide +kernel
theorem dX7_apart_30 : decode cX7_apart 30 = .ok (.isub, 1) := by decide +kernel
theorem dX7_apart_31 : decode cX7_apart 31 = .ok (.i2l, 1) := by decide +kernel
theorem dX7_apart_32 : decode cX7_apart 32 = .ok (.lreturn, 1) := by decide +kernel
theorem dX7_short0_0 : decode cX7_short0 0 = .ok (.aload_n 0, 1) := by decide +kernel
theorem dX7_short0_1 : decode cX7_short0 1 = .ok (.getfield 16, 3) := by decide +kernel
theorem dX7_short0_4 : decode cX7_short0 4 = .ok (.iload_n 1, 1) := by decide +kernel
theorem dX7_short0_5 : decode cX7_short0 5 = .ok (.iaload, 1) := by decide +kernel
theorem dX7_short0_6 : decode cX7_short0 6 = .ok (.aload_n 0, 1) := by decide +kernel
theorem dX7_short0_7 : decode cX7_short0 7 = .ok (.getfield 13, 3) := by decide +kernel
theorem dX7_short0_10 : decode cX7_short0 10 = .ok (.iconst 4, 1) := by decide +kernel
theorem dX7_short0_11 : decode cX7_short0 11 = .ok (.aload_n 0, 1) := by decide +kernel
theorem dX7_short0_12 : decode cX7_short0 12 = .ok (.getfield 25, 3) := by decide +kernel
theorem dX7_short0_15 : decode cX7_short0 15 = .ok (.iconst 0, 1) := by decide +kernel
theorem dX7_short0_16 : decode cX7_short0 16 = .ok (.iaload, 1) := by decide +kernel
theorem dX7_short0_17 : decode cX7_short0 17 = .ok (.imul, 1) := by decide +kernel
theorem dX7_short0_18 : decode cX7_short0 18 = .ok (.iload_n 1, 1) := by decide +kernel
theorem dX7_short0_19 : decode cX7_short0 19 = .ok (.iadd, 1) := by decide +kernel
theorem dX7_short0_20 : decode cX7_short0 20 = .ok (.iaload, 1) := by decide +kernel
theorem dX7_short0_21 : decode cX7_short0 21 = .ok (.isub, 1) := by decide +kernel
theorem dX7_short0_22 : decode cX7_short0 22 = .ok (.i2l, 1) := by decide +kernel
theorem dX7_short0_23 : decode cX7_short0 23 = .ok (.lreturn, 1) := by decide +kernel
theorem dX7_layPairs_0 : decode cX7_layPairs 0 = .ok (.iconst 0, 1) := by decide +kernel
theorem dX7_layPairs_1 : decode cX7_layPairs 1 = .ok (.istore_n 2, 1) := by decide +kernel
theorem dX7_layPairs_2 : decode cX7_layPairs 2 = .ok (.iload_n 2, 1) := by decide +kernel
theorem dX7_layPairs_3 : decode cX7_layPairs 3 = .ok (.bipush 9, 2) := by decide +kernel
theorem dX7_layPairs_5 : decode cX7_layPairs 5 = .ok (.if_icmp .ge 29, 3) := by decide +kernel
theorem dX7_layPairs_8 : decode cX7_layPairs 8 = .ok (.aload_n 0, 1) := by decide +kernel
theorem dX7_layPairs_9 : decode cX7_layPairs 9 = .ok (.getfield 32, 3) := by decide +kernel
theorem dX7_layPairs_12 : decode cX7_layPairs 12 = .ok (.iload_n 2, 1) := by decide +kernel
theorem dX7_layPairs_13 : decode cX7_layPairs 13 = .ok (.iload_n 2, 1) := by decide +kernel
theorem dX7_layPairs_14 : decode cX7_layPairs 14 = .ok (.iconst 3, 1) := by decide +kernel
theorem dX7_layPairs_15 : decode cX7_layPairs 15 = .ok (.idiv, 1) := by decide +kernel
theorem dX7_layPairs_16 : decode cX7_layPairs 16 = .ok (.iload_n 2, 1) := by decide +kernel
theorem dX7_layPairs_17 : decode cX7_layPairs 17 = .ok (.iconst 3, 1) := by decide +kernel
theorem dX7_layPairs_18 : decode cX7_layPairs 18 = .ok (.irem, 1) := by decide +kernel
theorem dX7_layPairs_19 : decode cX7_layPairs 19 = .ok (.if_icmp .ne 7, 3) := by decide +kernel
theorem dX7_layPairs_22 : decode cX7_layPairs 22 = .ok (.lconst 1, 1) := by decide +kernel
theorem dX7_layPairs_23 : decode cX7_layPairs 23 = .ok (.goto 4, 3) := by decide +kernel
theorem dX7_layPairs_26 : decode cX7_layPairs 26 = .ok (.lconst 0, 1) := by decide +kernel
theorem dX7_layPairs_27 : decode cX7_layPairs 27 = .ok (.lastore, 1) := by decide +kernel
theorem dX7_layPairs_28 : decode cX7_layPairs 28 = .ok (.iinc 2 1, 3) := by decide +kernel
theorem dX7_layPairs_31 : decode cX7_layPairs 31 = .ok (.goto (-29), 3) := by decide +kernel
theorem dX7_layPairs_34 : decode cX7_layPairs 34 = .ok (.iconst 0, 1) := by decide +kernel
theorem dX7_layPairs_35 : decode cX7_layPairs 35 = .ok (.istore_n 2, 1) := by decide +kernel
theorem dX7_layPairs_36 : decode cX7_layPairs 36 = .ok (.iload_n 2, 1) := by decide +kernel
theorem dX7_layPairs_37 : decode cX7_layPairs 37 = .ok (.iconst 3, 1) := by decide +kernel
theorem dX7_layPairs_38 : decode cX7_layPairs 38 = .ok (.if_icmp .ge 166, 3) := by decide +kernel
theorem dX7_layPairs_41 : decode cX7_layPairs 41 = .ok (.aload_n 0, 1) := by decide +kernel
theorem dX7_layPairs_42 : decode cX7_layPairs 42 = .ok (.getfield 35, 3) := by decide +kernel
theorem dX7_layPairs_45 : decode cX7_layPairs 45 = .ok (.iload_n 2, 1) := by decide +kernel
theorem dX7_layPairs_46 : decode cX7_layPairs 46 = .ok (.lconst 0, 1) := by decide +kernel
theorem dX7_layPairs_47 : decode cX7_layPairs 47 = .ok (.lastore, 1) := by decide +kernel
theorem dX7_layPairs_48 : decode cX7_layPairs 48 = .ok (.iconst 0, 1) := by decide +kernel
theorem dX7_layPairs_49 : decode cX7_layPairs 49 = .ok (.istore_n 3, 1) := by decide +kernel
theorem dX7_layPairs_50 : decode cX7_layPairs 50 = .ok (.iload_n 3, 1) := by decide +kernel
theorem dX7_layPairs_51 : decode cX7_layPairs 51 = .ok (.iconst 3, 1) := by decide +kernel
theorem dX7_layPairs_52 : decode cX7_layPairs 52 = .ok (.if_icmp .ge 146, 3) := by decide +kernel
theorem dX7_layPairs_55 : decode cX7_layPairs 55 = .ok (.iload_n 2, 1) := by decide +kernel
theorem dX7_layPairs_56 : decode cX7_layPairs 56 = .ok (.iconst 1, 1) := by decide +kernel
theorem dX7_layPairs_57 : decode cX7_layPairs 57 = .ok (.iadd, 1) := by decide +kernel
theorem dX7_layPairs_58 : decode cX7_layPairs 58 = .ok (.aload_n 0, 1) := by decide +kernel
theorem dX7_layPairs_59 : decode cX7_layPairs 59 = .ok (.getfield 121, 3) := by decide +kernel
theorem dX7_layPairs_62 : decode cX7_layPairs 62 = .ok (.if_icmp .ge 136, 3) := by decide +kernel
theorem dX7_layPairs_65 : decode cX7_layPairs 65 = .ok (.aload_n 0, 1) := by decide +kernel
theorem dX7_layPairs_66 : decode cX7_layPairs 66 = .ok (.getfield 32, 3) := by decide +kernel
theorem dX7_layPairs_69 : decode cX7_layPairs 69 = .ok (.iconst 3, 1) := by decide +kernel
theorem dX7_layPairs_70 : decode cX7_layPairs 70 = .ok (.iload_n 2, 1) := by decide +kernel
theorem dX7_layPairs_71 : decode cX7_layPairs 71 = .ok (.imul, 1) := by decide +kernel
theorem dX7_layPairs_72 : decode cX7_layPairs 72 = .ok (.iload_n 3, 1) := by decide +kernel
theorem dX7_layPairs_73 : decode cX7_layPairs 73 = .ok (.iadd, 1) := by decide +kernel
theorem dX7_layPairs_74 : decode cX7_layPairs 74 = .ok (.lconst 0, 1) := by decide +kernel
theorem dX7_layPairs_75 : decode cX7_layPairs 75 = .ok (.lastore, 1) := by decide +kernel
theorem dX7_layPairs_76 : decode cX7_layPairs 76 = .ok (.iconst 0, 1) := by decide +kernel
theorem dX7_layPairs_77 : decode cX7_layPairs 77 = .ok (.istore 4, 2) := by decide +kernel
theorem dX7_layPairs_79 : decode cX7_layPairs 79 = .ok (.iload 4, 2) := by decide +kernel
theorem dX7_layPairs_81 : decode cX7_layPairs 81 = .ok (.aload_n 0, 1) := by decide +kernel
theorem dX7_layPairs_82 : decode cX7_layPairs 82 = .ok (.getfield 81, 3) := by decide +kernel
theorem dX7_layPairs_85 : decode cX7_layPairs 85 = .ok (.if_icmp .ge 107, 3) := by decide +kernel
theorem dX7_layPairs_88 : decode cX7_layPairs 88 = .ok (.iload_n 1, 1) := by decide +kernel
theorem dX7_layPairs_89 : decode cX7_layPairs 89 = .ok (.iload 4, 2) := by decide +kernel
theorem dX7_layPairs_91 : decode cX7_layPairs 91 = .ok (.invokestatic 108, 3) := by decide +kernel
theorem dX7_layPairs_94 : decode cX7_layPairs 94 = .ok (.ifCond .eq 24, 3) := by decide +kernel
theorem dX7_layPairs_97 : decode cX7_layPairs 97 = .ok (.aload_n 0, 1) := by decide +kernel
theorem dX7_layPairs_98 : decode cX7_layPairs 98 = .ok (.getfield 19, 3) := by decide +kernel
theorem dX7_layPairs_101 : decode cX7_layPairs 101 = .ok (.iload 4, 2) := by decide +kernel
theorem dX7_layPairs_103 : decode cX7_layPairs 103 = .ok (.iaload, 1) := by decide +kernel
theorem dX7_layPairs_104 : decode cX7_layPairs 104 = .ok (.i2l, 1) := by decide +kernel
theorem dX7_layPairs_105 : decode cX7_layPairs 105 = .ok (.aload_n 0, 1) := by decide +kernel
theorem dX7_layPairs_106 : decode cX7_layPairs 106 = .ok (.iload_n 2, 1) := by decide +kernel
theorem dX7_layPairs_107 : decode cX7_layPairs 107 = .ok (.iconst 1, 1) := by decide +kernel
theorem dX7_layPairs_108 : decode cX7_layPairs 108 = .ok (.iadd, 1) := by decide +kernel
theorem dX7_layPairs_109 : decode cX7_layPairs 109 = .ok (.iload 4, 2) := by decide +kernel
theorem dX7_layPairs_111 : decode cX7_layPairs 111 = .ok (.invokevirtual 124, 3) := by decide +kernel
theorem dX7_layPairs_114 : decode cX7_layPairs 114 = .ok (.lmul, 1) := by decide +kernel
theorem dX7_layPairs_115 : decode cX7_layPairs 115 = .ok (.goto 4, 3) := by decide +kernel
theorem dX7_layPairs_118 : decode cX7_layPairs 118 = .ok (.lconst 0, 1) := by decide +kernel
theorem dX7_layPairs_119 : decode cX7_layPairs 119 = .ok (.lstore 5, 2) := by decide +kernel
theorem dX7_layPairs_121 : decode cX7_layPairs 121 = .ok (.aload_n 0, 1) := by decide +kernel
theorem dX7_layPairs_122 : decode cX7_layPairs 122 = .ok (.getfield 32, 3) := by decide +kernel
theorem dX7_layPairs_125 : decode cX7_layPairs 125 = .ok (.iconst 3, 1) := by decide +kernel
theorem dX7_layPairs_126 : decode cX7_layPairs 126 = .ok (.iload_n 2, 1) := by decide +kernel
theorem dX7_layPairs_127 : decode cX7_layPairs 127 = .ok (.imul, 1) := by decide +kernel
theorem dX7_layPairs_128 : decode cX7_layPairs 128 = .ok (.iload_n 3, 1) := by decide +kernel
theorem dX7_layPairs_129 : decode cX7_layPairs 129 = .ok (.iadd, 1) := by decide +kernel
theorem dX7_layPairs_130 : decode cX7_layPairs 130 = .ok (.dup2, 1) := by decide +kernel
theorem dX7_layPairs_131 : decode cX7_layPairs 131 = .ok (.laload, 1) := by decide +kernel
theorem dX7_layPairs_132 : decode cX7_layPairs 132 = .ok (.iload_n 3, 1) := by decide +kernel
theorem dX7_layPairs_133 : decode cX7_layPairs 133 = .ok (.iconst 1, 1) := by decide +kernel
theorem dX7_layPairs_134 : decode cX7_layPairs 134 = .ok (.iadd, 1) := by decide +kernel
theorem dX7_layPairs_135 : decode cX7_layPairs 135 = .ok (.aload_n 0, 1) := by decide +kernel
theorem dX7_layPairs_136 : decode cX7_layPairs 136 = .ok (.getfield 121, 3) := by decide +kernel
theorem dX7_layPairs_139 : decode cX7_layPairs 139 = .ok (.if_icmp .ge 18, 3) := by decide +kernel
theorem dX7_layPairs_142 : decode cX7_layPairs 142 = .ok (.lload 5, 2) := by decide +kernel
theorem dX7_layPairs_144 : decode cX7_layPairs 144 = .ok (.aload_n 0, 1) := by decide +kernel
theorem dX7_layPairs_145 : decode cX7_layPairs 145 = .ok (.iload_n 3, 1) := by decide +kernel
theorem dX7_layPairs_146 : decode cX7_layPairs 146 = .ok (.iconst 1, 1) := by decide +kernel
theorem dX7_layPairs_147 : decode cX7_layPairs 147 = .ok (.iadd, 1) := by decide +kernel
theorem dX7_layPairs_148 : decode cX7_layPairs 148 = .ok (.iload 4, 2) := by decide +kernel
theorem dX7_layPairs_150 : decode cX7_layPairs 150 = .ok (.invokevirtual 124, 3) := by decide +kernel
theorem dX7_layPairs_153 : decode cX7_layPairs 153 = .ok (.lmul, 1) := by decide +kernel
theorem dX7_layPairs_154 : decode cX7_layPairs 154 = .ok (.goto 4, 3) := by decide +kernel
theorem dX7_layPairs_157 : decode cX7_layPairs 157 = .ok (.lconst 0, 1) := by decide +kernel
theorem dX7_layPairs_158 : decode cX7_layPairs 158 = .ok (.ladd, 1) := by decide +kernel
theorem dX7_layPairs_159 : decode cX7_layPairs 159 = .ok (.lastore, 1) := by decide +kernel
theorem dX7_layPairs_160 : decode cX7_layPairs 160 = .ok (.aload_n 0, 1) := by decide +kernel
theorem dX7_layPairs_161 : decode cX7_layPairs 161 = .ok (.getfield 35, 3) := by decide +kernel
theorem dX7_layPairs_164 : decode cX7_layPairs 164 = .ok (.iload_n 2, 1) := by decide +kernel
theorem dX7_layPairs_165 : decode cX7_layPairs 165 = .ok (.dup2, 1) := by decide +kernel
theorem dX7_layPairs_166 : decode cX7_layPairs 166 = .ok (.laload, 1) := by decide +kernel
theorem dX7_layPairs_167 : decode cX7_layPairs 167 = .ok (.iload_n 3, 1) := by decide +kernel
theorem dX7_layPairs_168 : decode cX7_layPairs 168 = .ok (.ifCond .ne 15, 3) := by decide +kernel
theorem dX7_layPairs_171 : decode cX7_layPairs 171 = .ok (.lload 5, 2) := by decide +kernel
theorem dX7_layPairs_173 : decode cX7_layPairs 173 = .ok (.aload_n 0, 1) := by decide +kernel
theorem dX7_layPairs_174 : decode cX7_layPairs 174 = .ok (.iload 4, 2) := by decide +kernel
theorem dX7_layPairs_176 : decode cX7_layPairs 176 = .ok (.invokevirtual 127, 3) := by decide +kernel
theorem dX7_layPairs_179 : decode cX7_layPairs 179 = .ok (.lmul, 1) := by decide +kernel
theorem dX7_layPairs_180 : decode cX7_layPairs 180 = .ok (.goto 4, 3) := by decide +kernel
theorem dX7_layPairs_183 : decode cX7_layPairs 183 = .ok (.lconst 0, 1) := by decide +kernel
theorem dX7_layPairs_184 : decode cX7_layPairs 184 = .ok (.ladd, 1) := by decide +kernel
theorem dX7_layPairs_185 : decode cX7_layPairs 185 = .ok (.lastore, 1) := by decide +kernel
theorem dX7_layPairs_186 : decode cX7_layPairs 186 = .ok (.iinc 4 1, 3) := by decide +kernel
theorem dX7_layPairs_189 : decode cX7_layPairs 189 = .ok (.goto (-110), 3) := by decide +kernel
theorem dX7_layPairs_192 : decode cX7_layPairs 192 = .ok (.iinc 3 1, 3) := by decide +kernel
theorem dX7_layPairs_195 : decode cX7_layPairs 195 = .ok (.goto (-145), 3) := by decide +kernel
theorem dX7_layPairs_198 : decode cX7_layPairs 198 = .ok (.iinc 2 1, 3) := by decide +kernel
theorem dX7_layPairs_201 : decode cX7_layPairs 201 = .ok (.goto (-165), 3) := by decide +kernel
theorem dX7_layPairs_204 : decode cX7_layPairs 204 = .ok (.return_, 1) := by decide +kernel
theorem dX7_cell_0 : decode cX7_cell 0 = .ok (.iload_n 2, 1) := by decide +kernel
theorem dX7_cell_1 : decode cX7_cell 1 = .ok (.iload_n 3, 1) := by decide +kernel
theorem dX7_cell_2 : decode cX7_cell 2 = .ok (.if_icmp .ne 12, 3) := by decide +kernel
theorem dX7_cell_5 : decode cX7_cell 5 = .ok (.aload_n 0, 1) := by decide +kernel
theorem dX7_cell_6 : decode cX7_cell 6 = .ok (.getfield 35, 3) := by decide +kernel
theorem dX7_cell_9 : decode cX7_cell 9 = .ok (.iload_n 1, 1) := by decide +kernel
theorem dX7_cell_10 : decode cX7_cell 10 = .ok (.laload, 1) := by decide +kernel
theorem dX7_cell_11 : decode cX7_cell 11 = .ok (.goto 13, 3) := by decide +kernel
theorem dX7_cell_14 : decode cX7_cell 14 = .ok (.aload_n 0, 1) := by decide +kernel
theorem dX7_cell_15 : decode cX7_cell 15 = .ok (.getfield 32, 3) := by decide +kernel
theorem dX7_cell_18 : decode cX7_cell 18 = .ok (.iconst 3, 1) := by decide +kernel
theorem dX7_cell_19 : decode cX7_cell 19 = .ok (.iload_n 1, 1) := by decide +kernel
theorem dX7_cell_20 : decode cX7_cell 20 = .ok (.imul, 1) := by decide +kernel
theorem dX7_cell_21 : decode cX7_cell 21 = .ok (.iload_n 2, 1) := by decide +kernel
theorem dX7_cell_22 : decode cX7_cell 22 = .ok (.iadd, 1) := by decide +kernel
theorem dX7_cell_23 : decode cX7_cell 23 = .ok (.laload, 1) := by decide +kernel
theorem dX7_cell_24 : decode cX7_cell 24 = .ok (.lreturn, 1) := by decide +kernel
theorem dX7_determinant_0 : decode cX7_determinant 0 = .ok (.lconst 0, 1) := by decide +kernel
theorem dX7_determinant_1 : decode cX7_determinant 1 = .ok (.lstore_n 2, 1) := by decide +kernel
theorem dX7_determinant_2 : decode cX7_determinant 2 = .ok (.iconst 0, 1) := by decide +kernel
theorem dX7_determinant_3 : decode cX7_determinant 3 = .ok (.istore 4, 2) := by decide +kernel
theorem dX7_determinant_5 : decode cX7_determinant 5 = .ok (.iload 4, 2) := by decide +kernel
theorem dX7_determinant_7 : decode cX7_determinant 7 = .ok (.iconst 3, 1) := by decide +kernel
theorem dX7_determinant_8 : decode cX7_determinant 8 = .ok (.if_icmp .ge 72, 3) := by decide +kernel
theorem dX7_determinant_11 : decode cX7_determinant 11 = .ok (.iload 4, 2) := by decide +kernel
theorem dX7_determinant_13 : decode cX7_determinant 13 = .ok (.iconst 1, 1) := by decide +kernel
theorem dX7_determinant_14 : decode cX7_determinant 14 = .ok (.iadd, 1) := by decide +kernel
theorem dX7_determinant_15 : decode cX7_determinant 15 = .ok (.iconst 3, 1) := by decide +kernel
theorem dX7_determinant_16 : decode cX7_determinant 16 = .ok (.irem, 1) := by decide +kernel
theorem dX7_determinant_17 : decode cX7_determinant 17 = .ok (.istore 5, 2) := by decide +kernel
theorem dX7_determinant_19 : decode cX7_determinant 19 = .ok (.iload 4, 2) := by decide +kernel
theorem dX7_determinant_21 : decode cX7_determinant 21 = .ok (.iconst 2, 1) := by decide +kernel
theorem dX7_determinant_22 : decode cX7_determinant 22 = .ok (.iadd, 1) := by decide +kernel
theorem dX7_determinant_23 : decode cX7_determinant 23 = .ok (.iconst 3, 1) := by decide +kernel
theorem dX7_determinant_24 : decode cX7_determinant 24 = .ok (.irem, 1) := by decide +kernel
theorem dX7_determinant_25 : decode cX7_determinant 25 = .ok (.istore 6, 2) := by decide +kernel
theorem dX7_determinant_27 : decode cX7_determinant 27 = .ok (.lload_n 2, 1) := by decide +kernel
theorem dX7_determinant_28 : decode cX7_determinant 28 = .ok (.aload_n 0, 1) := by decide +kernel
theorem dX7_determinant_29 : decode cX7_determinant 29 = .ok (.iconst 0, 1) := by decide +kernel
theorem dX7_determinant_30 : decode cX7_determinant 30 = .ok (.iload 4, 2) := by decide +kernel
theorem dX7_determinant_32 : decode cX7_determinant 32 = .ok (.iload_n 1, 1) := by decide +kernel
theorem dX7_determinant_33 : decode cX7_determinant 33 = .ok (.invokevirtual 131, 3) := by decide +kernel
theorem dX7_determinant_36 : decode cX7_determinant 36 = .ok (.aload_n 0, 1) := by decide +kernel
theorem dX7_determinant_37 : decode cX7_determinant 37 = .ok (.iconst 1, 1) := by decide +kernel
theorem dX7_determinant_38 : decode cX7_determinant 38 = .ok (.iload 5, 2) := by decide +kernel
theorem dX7_determinant_40 : decode cX7_determinant 40 = .ok (.iload_n 1, 1) := by decide +kernel
theorem dX7_determinant_41 : decode cX7_determinant 41 = .ok (.invokevirtual 131, 3) := by decide +kernel
theorem dX7_determinant_44 : decode cX7_determinant 44 = .ok (.aload_n 0, 1) := by decide +kernel
theorem dX7_determinant_45 : decode cX7_determinant 45 = .ok (.iconst 2, 1) := by decide +kernel
theorem dX7_determinant_46 : decode cX7_determinant 46 = .ok (.iload 6, 2) := by decide +kernel
theorem dX7_determinant_48 : decode cX7_determinant 48 = .ok (.iload_n 1, 1) := by decide +kernel
theorem dX7_determinant_49 : decode cX7_determinant 49 = .ok (.invokevirtual 131, 3) := by decide +kernel
theorem dX7_determinant_52 : decode cX7_determinant 52 = .ok (.lmul, 1) := by decide +kernel
theorem dX7_determinant_53 : decode cX7_determinant 53 = .ok (.aload_n 0, 1) := by decide +kernel
theorem dX7_determinant_54 : decode cX7_determinant 54 = .ok (.iconst 1, 1) := by decide +kernel
theorem dX7_determinant_55 : decode cX7_determinant 55 = .ok (.iload 6, 2) := by decide +kernel
theorem dX7_determinant_57 : decode cX7_determinant 57 = .ok (.iload_n 1, 1) := by decide +kernel
theorem dX7_determinant_58 : decode cX7_determinant 58 = .ok (.invokevirtual 131, 3) := by decide +kernel
theorem dX7_determinant_61 : decode cX7_determinant 61 = .ok (.aload_n 0, 1) := by decide +kernel
theorem dX7_determinant_62 : decode cX7_determinant 62 = .ok (.iconst 2, 1) := by decide +kernel
theorem dX7_determinant_63 : decode cX7_determinant 63 = .ok (.iload 5, 2) := by decide +kernel
theorem dX7_determinant_65 : decode cX7_determinant 65 = .ok (.iload_n 1, 1) := by decide +kernel
theorem dX7_determinant_66 : decode cX7_determinant 66 = .ok (.invokevirtual 131, 3) := by decide +kernel
theorem dX7_determinant_69 : decode cX7_determinant 69 = .ok (.lmul, 1) := by decide +kernel
theorem dX7_determinant_70 : decode cX7_determinant 70 = .ok (.lsub, 1) := by decide +kernel
theorem dX7_determinant_71 : decode cX7_determinant 71 = .ok (.lmul, 1) := by decide +kernel
theorem dX7_determinant_72 : decode cX7_determinant 72 = .ok (.ladd, 1) := by decide +kernel
theorem dX7_determinant_73 : decode cX7_determinant 73 = .ok (.lstore_n 2, 1) := by decide +kernel
theorem dX7_determinant_74 : decode cX7_determinant 74 = .ok (.iinc 4 1, 3) := by decide +kernel
theorem dX7_determinant_77 : decode cX7_determinant 77 = .ok (.goto (-72), 3) := by decide +kernel
theorem dX7_determinant_80 : decode cX7_determinant 80 = .ok (.lload_n 2, 1) := by decide +kernel
theorem dX7_determinant_81 : decode cX7_determinant 81 = .ok (.lreturn, 1) := by decide +kernel
theorem dX7_laySet_0 : decode cX7_laySet 0 = .ok (.aload_n 0, 1) := by decide +kernel
theorem dX7_laySet_1 : decode cX7_laySet 1 = .ok (.iconst 0, 1) := by decide +kernel
theorem dX7_laySet_2 : decode cX7_laySet 2 = .ok (.putfield 121, 3) := by decide +kernel
theorem dX7_laySet_5 : decode cX7_laySet 5 = .ok (.iconst 0, 1) := by decide +kernel
theorem dX7_laySet_6 : decode cX7_laySet 6 = .ok (.istore_n 3, 1) := by decide +kernel
theorem dX7_laySet_7 : decode cX7_laySet 7 = .ok (.iload_n 3, 1) := by decide +kernel
theorem dX7_laySet_8 : decode cX7_laySet 8 = .ok (.aload_n 0, 1) := by decide +kernel
theorem dX7_laySet_9 : decode cX7_laySet 9 = .ok (.getfield 78, 3) := by decide +kernel
theorem dX7_laySet_12 : decode cX7_laySet 12 = .ok (.if_icmp .ge 44, 3) := by decide +kernel
theorem dX7_laySet_15 : decode cX7_laySet 15 = .ok (.aload_n 0, 1) := by decide +kernel
theorem dX7_laySet_16 : decode cX7_laySet 16 = .ok (.getfield 28, 3) := by decide +kernel
theorem dX7_laySet_19 : decode cX7_laySet 19 = .ok (.iload_n 3, 1) := by decide +kernel
theorem dX7_laySet_20 : decode cX7_laySet 20 = .ok (.lconst 0, 1) := by decide +kernel
theorem dX7_laySet_21 : decode cX7_laySet 21 = .ok (.lastore, 1) := by decide +kernel
theorem dX7_laySet_22 : decode cX7_laySet 22 = .ok (.iload_n 1, 1) := by decide +kernel
theorem dX7_laySet_23 : decode cX7_laySet 23 = .ok (.iload_n 3, 1) := by decide +kernel
theorem dX7_laySet_24 : decode cX7_laySet 24 = .ok (.invokestatic 108, 3) := by decide +kernel
theorem dX7_laySet_27 : decode cX7_laySet 27 = .ok (.ifCond .eq 23, 3) := by decide +kernel
theorem dX7_laySet_30 : decode cX7_laySet 30 = .ok (.aload_n 0, 1) := by decide +kernel
theorem dX7_laySet_31 : decode cX7_laySet 31 = .ok (.getfield 25, 3) := by decide +kernel
theorem dX7_laySet_34 : decode cX7_laySet 34 = .ok (.aload_n 0, 1) := by decide +kernel
theorem dX7_laySet_35 : decode cX7_laySet 35 = .ok (.getfield 121, 3) := by decide +kernel
theorem dX7_laySet_38 : decode cX7_laySet 38 = .ok (.iload_n 3, 1) := by decide +kernel
theorem dX7_laySet_39 : decode cX7_laySet 39 = .ok (.iastore, 1) := by decide +kernel
theorem dX7_laySet_40 : decode cX7_laySet 40 = .ok (.aload_n 0, 1) := by decide +kernel
theorem dX7_laySet_41 : decode cX7_laySet 41 = .ok (.dup, 1) := by decide +kernel
theorem dX7_laySet_42 : decode cX7_laySet 42 = .ok (.getfield 121, 3) := by decide +kernel
theorem dX7_laySet_45 : decode cX7_laySet 45 = .ok (.iconst 1, 1) := by decide +kernel
theorem dX7_laySet_46 : decode cX7_laySet 46 = .ok (.iadd, 1) := by decide +kernel
theorem dX7_laySet_47 : decode cX7_laySet 47 = .ok (.putfield 121, 3) := by decide +kernel
theorem dX7_laySet_50 : decode cX7_laySet 50 = .ok (.iinc 3 1, 3) := by decide +kernel
theorem dX7_laySet_53 : decode cX7_laySet 53 = .ok (.goto (-46), 3) := by decide +kernel
theorem dX7_laySet_56 : decode cX7_laySet 56 = .ok (.aload_n 0, 1) := by decide +kernel
theorem dX7_laySet_57 : decode cX7_laySet 57 = .ok (.iload_n 2, 1) := by decide +kernel
theorem dX7_laySet_58 : decode cX7_laySet 58 = .ok (.invokevirtual 135, 3) := by decide +kernel
theorem dX7_laySet_61 : decode cX7_laySet 61 = .ok (.aload_n 0, 1) := by decide +kernel
theorem dX7_laySet_62 : decode cX7_laySet 62 = .ok (.aload_n 0, 1) := by decide +kernel
theorem dX7_laySet_63 : decode cX7_laySet 63 = .ok (.iconst 3, 1) := by decide +kernel
theorem dX7_laySet_64 : decode cX7_laySet 64 = .ok (.invokevirtual 139, 3) := by decide +kernel
theorem dX7_laySet_67 : decode cX7_laySet 67 = .ok (.putfield 142, 3) := by decide +kernel
theorem dX7_laySet_70 : decode cX7_laySet 70 = .ok (.aload_n 0, 1) := by decide +kernel
theorem dX7_laySet_71 : decode cX7_laySet 71 = .ok (.lconst 0, 1) := by decide +kernel
theorem dX7_laySet_72 : decode cX7_laySet 72 = .ok (.putfield 146, 3) := by decide +kernel
theorem dX7_laySet_75 : decode cX7_laySet 75 = .ok (.iconst 0, 1) := by decide +kernel
theorem dX7_laySet_76 : decode cX7_laySet 76 = .ok (.istore_n 3, 1) := by decide +kernel
theorem dX7_laySet_77 : decode cX7_laySet 77 = .ok (.iload_n 3, 1) := by decide +kernel
theorem dX7_laySet_78 : decode cX7_laySet 78 = .ok (.aload_n 0, 1) := by decide +kernel
theorem dX7_laySet_79 : decode cX7_laySet 79 = .ok (.getfield 81, 3) := by decide +kernel
theorem dX7_laySet_82 : decode cX7_laySet 82 = .ok (.if_icmp .ge 54, 3) := by decide +kernel
theorem dX7_laySet_85 : decode cX7_laySet 85 = .ok (.aload_n 0, 1) := by decide +kernel
theorem dX7_laySet_86 : decode cX7_laySet 86 = .ok (.dup, 1) := by decide +kernel
theorem dX7_laySet_87 : decode cX7_laySet 87 = .ok (.getfield 146, 3) := by decide +kernel
theorem dX7_laySet_90 : decode cX7_laySet 90 = .ok (.iload_n 2, 1) := by decide +kernel
theorem dX7_laySet_91 : decode cX7_laySet 91 = .ok (.iload_n 3, 1) := by decide +kernel
theorem dX7_laySet_92 : decode cX7_laySet 92 = .ok (.invokestatic 108, 3) := by decide +kernel
theorem dX7_laySet_95 : decode cX7_laySet 95 = .ok (.ifCond .eq 30, 3) := by decide +kernel
theorem dX7_laySet_98 : decode cX7_laySet 98 = .ok (.aload_n 0, 1) := by decide +kernel
theorem dX7_laySet_99 : decode cX7_laySet 99 = .ok (.getfield 19, 3) := by decide +kernel
theorem dX7_laySet_102 : decode cX7_laySet 102 = .ok (.iload_n 3, 1) := by decide +kernel
theorem dX7_laySet_103 : decode cX7_laySet 103 = .ok (.iaload, 1) := by decide +kernel
theorem dX7_laySet_104 : decode cX7_laySet 104 = .ok (.i2l, 1) := by decide +kernel
theorem dX7_laySet_105 : decode cX7_laySet 105 = .ok (.aload_n 0, 1) := by decide +kernel
theorem dX7_laySet_106 : decode cX7_laySet 106 = .ok (.iload_n 3, 1) := by decide +kernel
theorem dX7_laySet_107 : decode cX7_laySet 107 = .ok (.invokevirtual 127, 3) := by decide +kernel
theorem dX7_laySet_110 : decode cX7_laySet 110 = .ok (.lmul, 1) := by decide +kernel
theorem dX7_laySet_111 : decode cX7_laySet 111 = .ok (.aload_n 0, 1) := by decide +kernel
theorem dX7_laySet_112 : decode cX7_laySet 112 = .ok (.iload_n 3, 1) := by decide +kernel
theorem dX7_laySet_113 : decode cX7_laySet 113 = .ok (.invokevirtual 127, 3) := by decide +kernel
theorem dX7_laySet_116 : decode cX7_laySet 116 = .ok (.lmul, 1) := by decide +kernel
theorem dX7_laySet_117 : decode cX7_laySet 117 = .ok (.aload_n 0, 1) := by decide +kernel
theorem dX7_laySet_118 : decode cX7_laySet 118 = .ok (.getfield 142, 3) := by decide +kernel
theorem dX7_laySet_121 : decode cX7_laySet 121 = .ok (.lmul, 1) := by decide +kernel
theorem dX7_laySet_122 : decode cX7_laySet 122 = .ok (.goto 4, 3) := by decide +kernel
theorem dX7_laySet_125 : decode cX7_laySet 125 = .ok (.lconst 0, 1) := by decide +kernel
theorem dX7_laySet_126 : decode cX7_laySet 126 = .ok (.ladd, 1) := by decide +kernel
theorem dX7_laySet_127 : decode cX7_laySet 127 = .ok (.putfield 146, 3) := by decide +kernel
theorem dX7_laySet_130 : decode cX7_laySet 130 = .ok (.iinc 3 1, 3) := by decide +kernel
theorem dX7_laySet_133 : decode cX7_laySet 133 = .ok (.goto (-56), 3) := by decide +kernel
theorem dX7_laySet_136 : decode cX7_laySet 136 = .ok (.aload_n 0, 1) := by decide +kernel
theorem dX7_laySet_137 : decode cX7_laySet 137 = .ok (.getfield 142, 3) := by decide +kernel
theorem dX7_laySet_140 : decode cX7_laySet 140 = .ok (.lstore_n 3, 1) := by decide +kernel
theorem dX7_laySet_141 : decode cX7_laySet 141 = .ok (.iconst 0, 1) := by decide +kernel
theorem dX7_laySet_142 : decode cX7_laySet 142 = .ok (.istore 5, 2) := by decide +kernel
theorem dX7_laySet_144 : decode cX7_laySet 144 = .ok (.iload 5, 2) := by decide +kernel
theorem dX7_laySet_146 : decode cX7_laySet 146 = .ok (.iconst 1, 1) := by decide +kernel
theorem dX7_laySet_147 : decode cX7_laySet 147 = .ok (.iadd, 1) := by decide +kernel
theorem dX7_laySet_148 : decode cX7_laySet 148 = .ok (.aload_n 0, 1) := by decide +kernel
theorem dX7_laySet_149 : decode cX7_laySet 149 = .ok (.getfield 121, 3) := by decide +kernel
theorem dX7_laySet_152 : decode cX7_laySet 152 = .ok (.if_icmp .ge 57, 3) := by decide +kernel
theorem dX7_laySet_155 : decode cX7_laySet 155 = .ok (.aload_n 0, 1) := by decide +kernel
theorem dX7_laySet_156 : decode cX7_laySet 156 = .ok (.iload 5, 2) := by decide +kernel
theorem dX7_laySet_158 : decode cX7_laySet 158 = .ok (.invokevirtual 139, 3) := by decide +kernel
theorem dX7_laySet_161 : decode cX7_laySet 161 = .ok (.lstore 6, 2) := by decide +kernel
theorem dX7_laySet_163 : decode cX7_laySet 163 = .ok (.aload_n 0, 1) := by decide +kernel
theorem dX7_laySet_164 : decode cX7_laySet 164 = .ok (.getfield 28, 3) := by decide +kernel
theorem dX7_laySet_167 : decode cX7_laySet 167 = .ok (.aload_n 0, 1) := by decide +kernel
theorem dX7_laySet_168 : decode cX7_laySet 168 = .ok (.getfield 25, 3) := by decide +kernel
theorem dX7_laySet_171 : decode cX7_laySet 171 = .ok (.iload 5, 2) := by decide +kernel
theorem dX7_laySet_173 : decode cX7_laySet 173 = .ok (.iconst 1, 1) := by decide +kernel
theorem dX7_laySet_174 : decode cX7_laySet 174 = .ok (.iadd, 1) := by decide +kernel
theorem dX7_laySet_175 : decode cX7_laySet 175 = .ok (.iaload, 1) := by decide +kernel
theorem dX7_laySet_176 : decode cX7_laySet 176 = .ok (.lload 6, 2) := by decide +kernel
theorem dX7_laySet_178 : decode cX7_laySet 178 = .ok (.lastore, 1) := by decide +kernel
theorem dX7_laySet_179 : decode cX7_laySet 179 = .ok (.lload_n 3, 1) := by decide +kernel
theorem dX7_laySet_180 : decode cX7_laySet 180 = .ok (.lload 6, 2) := by decide +kernel
theorem dX7_laySet_182 : decode cX7_laySet 182 = .ok (.lsub, 1) := by decide +kernel
theorem dX7_laySet_183 : decode cX7_laySet 183 = .ok (.lstore_n 3, 1) := by decide +kernel
theorem dX7_laySet_184 : decode cX7_laySet 184 = .ok (.aload_n 0, 1) := by decide +kernel
theorem dX7_laySet_185 : decode cX7_laySet 185 = .ok (.dup, 1) := by decide +kernel
theorem dX7_laySet_186 : decode cX7_laySet 186 = .ok (.getfield 146, 3) := by decide +kernel
theorem dX7_laySet_189 : decode cX7_laySet 189 = .ok (.aload_n 0, 1) := by decide +kernel
theorem dX7_laySet_190 : decode cX7_laySet 190 = .ok (.getfield 35, 3) := by decide +kernel
theorem dX7_laySet_193 : decode cX7_laySet 193 = .ok (.iload 5, 2) := by decide +kernel
theorem dX7_laySet_195 : decode cX7_laySet 195 = .ok (.laload, 1) := by decide +kernel
theorem dX7_laySet_196 : decode cX7_laySet 196 = .ok (.lload 6, 2) := by decide +kernel
theorem dX7_laySet_198 : decode cX7_laySet 198 = .ok (.lmul, 1) := by decide +kernel
theorem dX7_laySet_199 : decode cX7_laySet 199 = .ok (.lsub, 1) := by decide +kernel
theorem dX7_laySet_200 : decode cX7_laySet 200 = .ok (.putfield 146, 3) := by decide +kernel
theorem dX7_laySet_203 : decode cX7_laySet 203 = .ok (.iinc 5 1, 3) := by decide +kernel
theorem dX7_laySet_206 : decode cX7_laySet 206 = .ok (.goto (-62), 3) := by decide +kernel
theorem dX7_laySet_209 : decode cX7_laySet 209 = .ok (.aload_n 0, 1) := by decide +kernel
theorem dX7_laySet_210 : decode cX7_laySet 210 = .ok (.getfield 28, 3) := by decide +kernel
theorem dX7_laySet_213 : decode cX7_laySet 213 = .ok (.aload_n 0, 1) := by decide +kernel
theorem dX7_laySet_214 : decode cX7_laySet 214 = .ok (.getfield 25, 3) := by decide +kernel
theorem dX7_laySet_217 : decode cX7_laySet 217 = .ok (.iconst 0, 1) := by decide +kernel
theorem dX7_laySet_218 : decode cX7_laySet 218 = .ok (.iaload, 1) := by decide +kernel
theorem dX7_laySet_219 : decode cX7_laySet 219 = .ok (.lload_n 3, 1) := by decide +kernel
theorem dX7_laySet_220 : decode cX7_laySet 220 = .ok (.lastore, 1) := by decide +kernel
theorem dX7_laySet_221 : decode cX7_laySet 221 = .ok (.return_, 1) := by decide +kernel
theorem dX7_isGood_0 : decode cX7_isGood 0 = .ok (.aload_n 0, 1) := by decide +kernel
theorem dX7_isGood_1 : decode cX7_isGood 1 = .ok (.getfield 142, 3) := by decide +kernel
theorem dX7_isGood_4 : decode cX7_isGood 4 = .ok (.lconst 0, 1) := by decide +kernel
theorem dX7_isGood_5 : decode cX7_isGood 5 = .ok (.lcmp, 1) := by decide +kernel
theorem dX7_isGood_6 : decode cX7_isGood 6 = .ok (.ifCond .le 7, 3) := by decide +kernel
theorem dX7_isGood_9 : decode cX7_isGood 9 = .ok (.iconst 1, 1) := by decide +kernel
theorem dX7_isGood_10 : decode cX7_isGood 10 = .ok (.goto 4, 3) := by decide +kernel
theorem dX7_isGood_13 : decode cX7_isGood 13 = .ok (.iconst 0, 1) := by decide +kernel
theorem dX7_isGood_14 : decode cX7_isGood 14 = .ok (.istore_n 1, 1) := by decide +kernel
theorem dX7_isGood_15 : decode cX7_isGood 15 = .ok (.iconst 0, 1) := by decide +kernel
theorem dX7_isGood_16 : decode cX7_isGood 16 = .ok (.istore_n 2, 1) := by decide +kernel
theorem dX7_isGood_17 : decode cX7_isGood 17 = .ok (.iload_n 2, 1) := by decide +kernel
theorem dX7_isGood_18 : decode cX7_isGood 18 = .ok (.aload_n 0, 1) := by decide +kernel
theorem dX7_isGood_19 : decode cX7_isGood 19 = .ok (.getfield 121, 3) := by decide +kernel
theorem dX7_isGood_22 : decode cX7_isGood 22 = .ok (.if_icmp .ge 35, 3) := by decide +kernel
theorem dX7_isGood_25 : decode cX7_isGood 25 = .ok (.iload_n 1, 1) := by decide +kernel
theorem dX7_isGood_26 : decode cX7_isGood 26 = .ok (.ifCond .eq 23, 3) := by decide +kernel
theorem dX7_isGood_29 : decode cX7_isGood 29 = .ok (.aload_n 0, 1) := by decide +kernel
theorem dX7_isGood_30 : decode cX7_isGood 30 = .ok (.getfield 28, 3) := by decide +kernel
theorem dX7_isGood_33 : decode cX7_isGood 33 = .ok (.aload_n 0, 1) := by decide +kernel
theorem dX7_isGood_34 : decode cX7_isGood 34 = .ok (.getfield 25, 3) := by decide +kernel
theorem dX7_isGood_37 : decode cX7_isGood 37 = .ok (.iload_n 2, 1) := by decide +kernel
theorem dX7_isGood_38 : decode cX7_isGood 38 = .ok (.iaload, 1) := by decide +kernel
theorem dX7_isGood_39 : decode cX7_isGood 39 = .ok (.laload, 1) := by decide +kernel
theorem dX7_isGood_40 : decode cX7_isGood 40 = .ok (.lconst 0, 1) := by decide +kernel
theorem dX7_isGood_41 : decode cX7_isGood 41 = .ok (.lcmp, 1) := by decide +kernel
theorem dX7_isGood_42 : decode cX7_isGood 42 = .ok (.ifCond .le 7, 3) := by decide +kernel
theorem dX7_isGood_45 : decode cX7_isGood 45 = .ok (.iconst 1, 1) := by decide +kernel
theorem dX7_isGood_46 : decode cX7_isGood 46 = .ok (.goto 4, 3) := by decide +kernel
theorem dX7_isGood_49 : decode cX7_isGood 49 = .ok (.iconst 0, 1) := by decide +kernel
theorem dX7_isGood_50 : decode cX7_isGood 50 = .ok (.istore_n 1, 1) := by decide +kernel
theorem dX7_isGood_51 : decode cX7_isGood 51 = .ok (.iinc 2 1, 3) := by decide +kernel
theorem dX7_isGood_54 : decode cX7_isGood 54 = .ok (.goto (-37), 3) := by decide +kernel
theorem dX7_isGood_57 : decode cX7_isGood 57 = .ok (.iload_n 1, 1) := by decide +kernel
theorem dX7_isGood_58 : decode cX7_isGood 58 = .ok (.ireturn, 1) := by decide +kernel
theorem dX7_compare_0 : decode cX7_compare 0 = .ok (.lload_n 0, 1) := by decide +kernel
theorem dX7_compare_1 : decode cX7_compare 1 = .ok (.lstore 8, 2) := by decide +kernel
theorem dX7_compare_3 : decode cX7_compare 3 = .ok (.lload_n 2, 1) := by decide +kernel
theorem dX7_compare_4 : decode cX7_compare 4 = .ok (.lstore 10, 2) := by decide +kernel
theorem dX7_compare_6 : decode cX7_compare 6 = .ok (.lload 4, 2) := by decide +kernel
theorem dX7_compare_8 : decode cX7_compare 8 = .ok (.lstore 12, 2) := by decide +kernel
theorem dX7_compare_10 : decode cX7_compare 10 = .ok (.lload 6, 2) := by decide +kernel
theorem dX7_compare_12 : decode cX7_compare 12 = .ok (.lstore 14, 2) := by decide +kernel
theorem dX7_compare_14 : decode cX7_compare 14 = .ok (.iconst 1, 1) := by decide +kernel
theorem dX7_compare_15 : decode cX7_compare 15 = .ok (.istore 16, 2) := by decide +kernel
theorem dX7_compare_17 : decode cX7_compare 17 = .ok (.lload 8, 2) := by decide +kernel
theorem dX7_compare_19 : decode cX7_compare 19 = .ok (.lload 10, 2) := by decide +kernel
theorem dX7_compare_21 : decode cX7_compare 21 = .ok (.ldiv, 1) := by decide +kernel
theorem dX7_compare_22 : decode cX7_compare 22 = .ok (.lstore 17, 2) := by decide +kernel
theorem dX7_compare_24 : decode cX7_compare 24 = .ok (.lload 12, 2) := by decide +kernel
theorem dX7_compare_26 : decode cX7_compare 26 = .ok (.lload 14, 2) := by decide +kernel
theorem dX7_compare_28 : decode cX7_compare 28 = .ok (.ldiv, 1) := by decide +kernel
theorem dX7_compare_29 : decode cX7_compare 29 = .ok (.lstore 19, 2) := by decide +kernel
theorem dX7_compare_31 : decode cX7_compare 31 = .ok (.lload 17, 2) := by decide +kernel
theorem dX7_compare_33 : decode cX7_compare 33 = .ok (.lload 19, 2) := by decide +kernel
theorem dX7_compare_35 : decode cX7_compare 35 = .ok (.lcmp, 1) := by decide +kernel
theorem dX7_compare_36 : decode cX7_compare 36 = .ok (.ifCond .eq 20, 3) := by decide +kernel
theorem dX7_compare_39 : decode cX7_compare 39 = .ok (.lload 17, 2) := by decide +kernel
theorem dX7_compare_41 : decode cX7_compare 41 = .ok (.lload 19, 2) := by decide +kernel
theorem dX7_compare_43 : decode cX7_compare 43 = .ok (.lcmp, 1) := by decide +kernel
theorem dX7_compare_44 : decode cX7_compare 44 = .ok (.ifCond .ge 9, 3) := by decide +kernel
theorem dX7_compare_47 : decode cX7_compare 47 = .ok (.iload 16, 2) := by decide +kernel
theorem dX7_compare_49 : decode cX7_compare 49 = .ok (.ineg, 1) := by decide +kernel
theorem dX7_compare_50 : decode cX7_compare 50 = .ok (.goto 5, 3) := by decide +kernel
theorem dX7_compare_53 : decode cX7_compare 53 = .ok (.iload 16, 2) := by decide +kernel
theorem dX7_compare_55 : decode cX7_compare 55 = .ok (.ireturn, 1) := by decide +kernel
theorem dX7_compare_56 : decode cX7_compare 56 = .ok (.lload 8, 2) := by decide +kernel
theorem dX7_compare_58 : decode cX7_compare 58 = .ok (.lload 10, 2) := by decide +kernel
theorem dX7_compare_60 : decode cX7_compare 60 = .ok (.lrem, 1) := by decide +kernel
theorem dX7_compare_61 : decode cX7_compare 61 = .ok (.lstore 21, 2) := by decide +kernel
theorem dX7_compare_63 : decode cX7_compare 63 = .ok (.lload 12, 2) := by decide +kernel
theorem dX7_compare_65 : decode cX7_compare 65 = .ok (.lload 14, 2) := by decide +kernel
theorem dX7_compare_67 : decode cX7_compare 67 = .ok (.lrem, 1) := by decide +kernel
theorem dX7_compare_68 : decode cX7_compare 68 = .ok (.lstore 23, 2) := by decide +kernel
theorem dX7_compare_70 : decode cX7_compare 70 = .ok (.lload 21, 2) := by decide +kernel
theorem dX7_compare_72 : decode cX7_compare 72 = .ok (.lconst 0, 1) := by decide +kernel
theorem dX7_compare_73 : decode cX7_compare 73 = .ok (.lcmp, 1) := by decide +kernel
theorem dX7_compare_74 : decode cX7_compare 74 = .ok (.ifCond .eq 10, 3) := by decide +kernel
theorem dX7_compare_77 : decode cX7_compare 77 = .ok (.lload 23, 2) := by decide +kernel
theorem dX7_compare_79 : decode cX7_compare 79 = .ok (.lconst 0, 1) := by decide +kernel
theorem dX7_compare_80 : decode cX7_compare 80 = .ok (.lcmp, 1) := by decide +kernel
theorem dX7_compare_81 : decode cX7_compare 81 = .ok (.ifCond .ne 31, 3) := by decide +kernel
theorem dX7_compare_84 : decode cX7_compare 84 = .ok (.lload 21, 2) := by decide +kernel
theorem dX7_compare_86 : decode cX7_compare 86 = .ok (.lload 23, 2) := by decide +kernel
theorem dX7_compare_88 : decode cX7_compare 88 = .ok (.lcmp, 1) := by decide +kernel
theorem dX7_compare_89 : decode cX7_compare 89 = .ok (.ifCond .ne 7, 3) := by decide +kernel
theorem dX7_compare_92 : decode cX7_compare 92 = .ok (.iconst 0, 1) := by decide +kernel
theorem dX7_compare_93 : decode cX7_compare 93 = .ok (.goto 18, 3) := by decide +kernel
theorem dX7_compare_96 : decode cX7_compare 96 = .ok (.lload 21, 2) := by decide +kernel
theorem dX7_compare_98 : decode cX7_compare 98 = .ok (.lconst 0, 1) := by decide +kernel
theorem dX7_compare_99 : decode cX7_compare 99 = .ok (.lcmp, 1) := by decide +kernel
theorem dX7_compare_100 : decode cX7_compare 100 = .ok (.ifCond .ne 9, 3) := by decide +kernel
theorem dX7_compare_103 : decode cX7_compare 103 = .ok (.iload 16, 2) := by decide +kernel
theorem dX7_compare_105 : decode cX7_compare 105 = .ok (.ineg, 1) := by decide +kernel
theorem dX7_compare_106 : decode cX7_compare 106 = .ok (.goto 5, 3) := by decide +kernel
theorem dX7_compare_109 : decode cX7_compare 109 = .ok (.iload 16, 2) := by decide +kernel
theorem dX7_compare_111 : decode cX7_compare 111 = .ok (.ireturn, 1) := by decide +kernel
theorem dX7_compare_112 : decode cX7_compare 112 = .ok (.lload 10, 2) := by decide +kernel
theorem dX7_compare_114 : decode cX7_compare 114 = .ok (.lstore 8, 2) := by decide +kernel
theorem dX7_compare_116 : decode cX7_compare 116 = .ok (.lload 21, 2) := by decide +kernel
theorem dX7_compare_118 : decode cX7_compare 118 = .ok (.lstore 10, 2) := by decide +kernel
theorem dX7_compare_120 : decode cX7_compare 120 = .ok (.lload 14, 2) := by decide +kernel
theorem dX7_compare_122 : decode cX7_compare 122 = .ok (.lstore 12, 2) := by decide +kernel
theorem dX7_compare_124 : decode cX7_compare 124 = .ok (.lload 23, 2) := by decide +kernel
theorem dX7_compare_126 : decode cX7_compare 126 = .ok (.lstore 14, 2) := by decide +kernel
theorem dX7_compare_128 : decode cX7_compare 128 = .ok (.iload 16, 2) := by decide +kernel
theorem dX7_compare_130 : decode cX7_compare 130 = .ok (.ineg, 1) := by decide +kernel
theorem dX7_compare_131 : decode cX7_compare 131 = .ok (.istore 16, 2) := by decide +kernel
theorem dX7_compare_133 : decode cX7_compare 133 = .ok (.goto (-116), 3) := by decide +kernel
theorem dX7_ones_0 : decode cX7_ones 0 = .ok (.iconst 0, 1) := by decide +kernel
theorem dX7_ones_1 : decode cX7_ones 1 = .ok (.istore_n 1, 1) := by decide +kernel
theorem dX7_ones_2 : decode cX7_ones 2 = .ok (.iconst 0, 1) := by decide +kernel
theorem dX7_ones_3 : decode cX7_ones 3 = .ok (.istore_n 2, 1) := by decide +kernel
theorem dX7_ones_4 : decode cX7_ones 4 = .ok (.iload_n 2, 1) := by decide +kernel
theorem dX7_ones_5 : decode cX7_ones 5 = .ok (.iconst 4, 1) := by decide +kernel
theorem dX7_ones_6 : decode cX7_ones 6 = .ok (.if_icmp .ge 17, 3) := by decide +kernel
theorem dX7_ones_9 : decode cX7_ones 9 = .ok (.iload_n 1, 1) := by decide +kernel
theorem dX7_ones_10 : decode cX7_ones 10 = .ok (.iload_n 0, 1) := by decide +kernel
theorem dX7_ones_11 : decode cX7_ones 11 = .ok (.iload_n 2, 1) := by decide +kernel
theorem dX7_ones_12 : decode cX7_ones 12 = .ok (.ishr, 1) := by decide +kernel
theorem dX7_ones_13 : decode cX7_ones 13 = .ok (.iconst 1, 1) := by decide +kernel
theorem dX7_ones_14 : decode cX7_ones 14 = .ok (.iand, 1) := by decide +kernel
theorem dX7_ones_15 : decode cX7_ones 15 = .ok (.iadd, 1) := by decide +kernel
theorem dX7_ones_16 : decode cX7_ones 16 = .ok (.istore_n 1, 1) := by decide +kernel
theorem dX7_ones_17 : decode cX7_ones 17 = .ok (.iinc 2 1, 3) := by decide +kernel
theorem dX7_ones_20 : decode cX7_ones 20 = .ok (.goto (-16), 3) := by decide +kernel
theorem dX7_ones_23 : decode cX7_ones 23 = .ok (.iload_n 1, 1) := by decide +kernel
theorem dX7_ones_24 : decode cX7_ones 24 = .ok (.ireturn, 1) := by decide +kernel
theorem dX7_layBest_0 : decode cX7_layBest 0 = .ok (.aload_n 0, 1) := by decide +kernel
theorem dX7_layBest_1 : decode cX7_layBest 1 = .ok (.iconst 0, 1) := by decide +kernel
theorem dX7_layBest_2 : decode cX7_layBest 2 = .ok (.putfield 149, 3) := by decide +kernel
theorem dX7_layBest_5 : decode cX7_layBest 5 = .ok (.aload_n 0, 1) := by decide +kernel
theorem dX7_layBest_6 : decode cX7_layBest 6 = .ok (.iconst 0, 1) := by decide +kernel
theorem dX7_layBest_7 : decode cX7_layBest 7 = .ok (.putfield 152, 3) := by decide +kernel
theorem dX7_layBest_10 : decode cX7_layBest 10 = .ok (.lconst 0, 1) := by decide +kernel
theorem dX7_layBest_11 : decode cX7_layBest 11 = .ok (.lstore_n 2, 1) := by decide +kernel
theorem dX7_layBest_12 : decode cX7_layBest 12 = .ok (.lconst 1, 1) := by decide +kernel
theorem dX7_layBest_13 : decode cX7_layBest 13 = .ok (.lstore 4, 2) := by decide +kernel
theorem dX7_layBest_15 : decode cX7_layBest 15 = .ok (.iconst 1, 1) := by decide +kernel
theorem dX7_layBest_16 : decode cX7_layBest 16 = .ok (.istore 6, 2) := by decide +kernel
theorem dX7_layBest_18 : decode cX7_layBest 18 = .ok (.iload 6, 2) := by decide +kernel
theorem dX7_layBest_20 : decode cX7_layBest 20 = .ok (.iconst 1, 1) := by decide +kernel
theorem dX7_layBest_21 : decode cX7_layBest 21 = .ok (.aload_n 0, 1) := by decide +kernel
theorem dX7_layBest_22 : decode cX7_layBest 22 = .ok (.getfield 78, 3) := by decide +kernel
theorem dX7_layBest_25 : decode cX7_layBest 25 = .ok (.ishl, 1) := by decide +kernel
theorem dX7_layBest_26 : decode cX7_layBest 26 = .ok (.if_icmp .ge 102, 3) := by decide +kernel
theorem dX7_layBest_29 : decode cX7_layBest 29 = .ok (.aload_n 0, 1) := by decide +kernel
theorem dX7_layBest_30 : decode cX7_layBest 30 = .ok (.iload 6, 2) := by decide +kernel
theorem dX7_layBest_32 : decode cX7_layBest 32 = .ok (.iload_n 1, 1) := by decide +kernel
theorem dX7_layBest_33 : decode cX7_layBest 33 = .ok (.invokevirtual 155, 3) := by decide +kernel
theorem dX7_layBest_36 : decode cX7_layBest 36 = .ok (.aload_n 0, 1) := by decide +kernel
theorem dX7_layBest_37 : decode cX7_layBest 37 = .ok (.invokevirtual 159, 3) := by decide +kernel
theorem dX7_layBest_40 : decode cX7_layBest 40 = .ok (.ifCond .eq 82, 3) := by decide +kernel
theorem dX7_layBest_43 : decode cX7_layBest 43 = .ok (.aload_n 0, 1) := by decide +kernel
theorem dX7_layBest_44 : decode cX7_layBest 44 = .ok (.dup, 1) := by decide +kernel
theorem dX7_layBest_45 : decode cX7_layBest 45 = .ok (.getfield 152, 3) := by decide +kernel
theorem dX7_layBest_48 : decode cX7_layBest 48 = .ok (.iconst 1, 1) := by decide +kernel
theorem dX7_layBest_49 : decode cX7_layBest 49 = .ok (.iadd, 1) := by decide +kernel
theorem dX7_layBest_50 : decode cX7_layBest 50 = .ok (.putfield 152, 3) := by decide +kernel
theorem dX7_layBest_53 : decode cX7_layBest 53 = .ok (.aload_n 0, 1) := by decide +kernel
theorem dX7_layBest_54 : decode cX7_layBest 54 = .ok (.getfield 149, 3) := by decide +kernel
theorem dX7_layBest_57 : decode cX7_layBest 57 = .ok (.ifCond .ne 7, 3) := by decide +kernel
theorem dX7_layBest_60 : decode cX7_layBest 60 = .ok (.iconst (-1), 1) := by decide +kernel
theorem dX7_layBest_61 : decode cX7_layBest 61 = .ok (.goto 17, 3) := by decide +kernel
theorem dX7_layBest_64 : decode cX7_layBest 64 = .ok (.aload_n 0, 1) := by decide +kernel
theorem dX7_layBest_65 : decode cX7_layBest 65 = .ok (.getfield 146, 3) := by decide +kernel
theorem dX7_layBest_68 : decode cX7_layBest 68 = .ok (.aload_n 0, 1) := by decide +kernel
theorem dX7_layBest_69 : decode cX7_layBest 69 = .ok (.getfield 142, 3) := by decide +kernel
theorem dX7_layBest_72 : decode cX7_layBest 72 = .ok (.lload_n 2, 1) := by decide +kernel
theorem dX7_layBest_73 : decode cX7_layBest 73 = .ok (.lload 4, 2) := by decide +kernel
theorem dX7_layBest_75 : decode cX7_layBest 75 = .ok (.invokestatic 163, 3) := by decide +kernel
theorem dX7_layBest_78 : decode cX7_layBest 78 = .ok (.istore 7, 2) := by decide +kernel
theorem dX7_layBest_80 : decode cX7_layBest 80 = .ok (.iload 7, 2) := by decide +kernel
theorem dX7_layBest_82 : decode cX7_layBest 82 = .ok (.ifCond .lt 23, 3) := by decide +kernel
theorem dX7_layBest_85 : decode cX7_layBest 85 = .ok (.iload 7, 2) := by decide +kernel
theorem dX7_layBest_87 : decode cX7_layBest 87 = .ok (.ifCond .ne 35, 3) := by decide +kernel
theorem dX7_layBest_90 : decode cX7_layBest 90 = .ok (.iload 6, 2) := by decide +kernel
theorem dX7_layBest_92 : decode cX7_layBest 92 = .ok (.invokestatic 167, 3) := by decide +kernel
theorem dX7_layBest_95 : decode cX7_layBest 95 = .ok (.aload_n 0, 1) := by decide +kernel
theorem dX7_layBest_96 : decode cX7_layBest 96 = .ok (.getfield 149, 3) := by decide +kernel
theorem dX7_layBest_99 : decode cX7_layBest 99 = .ok (.invokestatic 167, 3) := by decide +kernel
theorem dX7_layBest_102 : decode cX7_layBest 102 = .ok (.if_icmp .ge 20, 3) := by decide +kernel
theorem dX7_layBest_105 : decode cX7_layBest 105 = .ok (.aload_n 0, 1) := by decide +kernel
theorem dX7_layBest_106 : decode cX7_layBest 106 = .ok (.iload 6, 2) := by decide +kernel
theorem dX7_layBest_108 : decode cX7_layBest 108 = .ok (.putfield 149, 3) := by decide +kernel
theorem dX7_layBest_111 : decode cX7_layBest 111 = .ok (.aload_n 0, 1) := by decide +kernel
theorem dX7_layBest_112 : decode cX7_layBest 112 = .ok (.getfield 146, 3) := by decide +kernel
theorem dX7_layBest_115 : decode cX7_layBest 115 = .ok (.lstore_n 2, 1) := by decide +kernel
theorem dX7_layBest_116 : decode cX7_layBest 116 = .ok (.aload_n 0, 1) := by decide +kernel
theorem dX7_layBest_117 : decode cX7_layBest 117 = .ok (.getfield 142, 3) := by decide +kernel
theorem dX7_layBest_120 : decode cX7_layBest 120 = .ok (.lstore 4, 2) := by decide +kernel
theorem dX7_layBest_122 : decode cX7_layBest 122 = .ok (.iinc 6 1, 3) := by decide +kernel
theorem dX7_layBest_125 : decode cX7_layBest 125 = .ok (.goto (-107), 3) := by decide +kernel
theorem dX7_layBest_128 : decode cX7_layBest 128 = .ok (.aload_n 0, 1) := by decide +kernel
theorem dX7_layBest_129 : decode cX7_layBest 129 = .ok (.aload_n 0, 1) := by decide +kernel
theorem dX7_layBest_130 : decode cX7_layBest 130 = .ok (.getfield 149, 3) := by decide +kernel
theorem dX7_layBest_133 : decode cX7_layBest 133 = .ok (.iload_n 1, 1) := by decide +kernel
theorem dX7_layBest_134 : decode cX7_layBest 134 = .ok (.invokevirtual 155, 3) := by decide +kernel
theorem dX7_layBest_137 : decode cX7_layBest 137 = .ok (.return_, 1) := by decide +kernel
theorem dX7_divisor_0 : decode cX7_divisor 0 = .ok (.lload_n 0, 1) := by decide +kernel
theorem dX7_divisor_1 : decode cX7_divisor 1 = .ok (.lconst 0, 1) := by decide +kernel
theorem dX7_divisor_2 : decode cX7_divisor 2 = .ok (.lcmp, 1) := by decide +kernel
theorem dX7_divisor_3 : decode cX7_divisor 3 = .ok (.ifCond .ge 8, 3) := by decide +kernel
theorem dX7_divisor_6 : decode cX7_divisor 6 = .ok (.lload_n 0, 1) := by decide +kernel
theorem dX7_divisor_7 : decode cX7_divisor 7 = .ok (.lneg, 1) := by decide +kernel
theorem dX7_divisor_8 : decode cX7_divisor 8 = .ok (.goto 4, 3) := by decide +kernel
theorem dX7_divisor_11 : decode cX7_divisor 11 = .ok (.lload_n 0, 1) := by decide +kernel
theorem dX7_divisor_12 : decode cX7_divisor 12 = .ok (.lstore 4, 2) := by decide +kernel
theorem dX7_divisor_14 : decode cX7_divisor 14 = .ok (.lload_n 2, 1) := by decide +kernel
theorem dX7_divisor_15 : decode cX7_divisor 15 = .ok (.lstore 6, 2) := by decide +kernel
theorem dX7_divisor_17 : decode cX7_divisor 17 = .ok (.lload 6, 2) := by decide +kernel
theorem dX7_divisor_19 : decode cX7_divisor 19 = .ok (.lconst 0, 1) := by decide +kernel
theorem dX7_divisor_20 : decode cX7_divisor 20 = .ok (.lcmp, 1) := by decide +kernel
theorem dX7_divisor_21 : decode cX7_divisor 21 = .ok (.ifCond .eq 21, 3) := by decide +kernel
theorem dX7_divisor_24 : decode cX7_divisor 24 = .ok (.lload 4, 2) := by decide +kernel
theorem dX7_divisor_26 : decode cX7_divisor 26 = .ok (.lload 6, 2) := by decide +kernel
theorem dX7_divisor_28 : decode cX7_divisor 28 = .ok (.lrem, 1) := by decide +kernel
theorem dX7_divisor_29 : decode cX7_divisor 29 = .ok (.lstore 8, 2) := by decide +kernel
theorem dX7_divisor_31 : decode cX7_divisor 31 = .ok (.lload 6, 2) := by decide +kernel
theorem dX7_divisor_33 : decode cX7_divisor 33 = .ok (.lstore 4, 2) := by decide +kernel
theorem dX7_divisor_35 : decode cX7_divisor 35 = .ok (.lload 8, 2) := by decide +kernel
theorem dX7_divisor_37 : decode cX7_divisor 37 = .ok (.lstore 6, 2) := by decide +kernel
theorem dX7_divisor_39 : decode cX7_divisor 39 = .ok (.goto (-22), 3) := by decide +kernel
theorem dX7_divisor_42 : decode cX7_divisor 42 = .ok (.lload 4, 2) := by decide +kernel
theorem dX7_divisor_44 : decode cX7_divisor 44 = .ok (.lreturn, 1) := by decide +kernel
theorem dX7_lowest_0 : decode cX7_lowest 0 = .ok (.iload 4, 2) := by decide +kernel
theorem dX7_lowest_2 : decode cX7_lowest 2 = .ok (.ifCond .ne 7, 3) := by decide +kernel
theorem dX7_lowest_5 : decode cX7_lowest 5 = .ok (.lload_n 0, 1) := by decide +kernel
theorem dX7_lowest_6 : decode cX7_lowest 6 = .ok (.goto 4, 3) := by decide +kernel
theorem dX7_lowest_9 : decode cX7_lowest 9 = .ok (.lload_n 2, 1) := by decide +kernel
theorem dX7_lowest_10 : decode cX7_lowest 10 = .ok (.lload_n 0, 1) := by decide +kernel
theorem dX7_lowest_11 : decode cX7_lowest 11 = .ok (.lload_n 2, 1) := by decide +kernel
theorem dX7_lowest_12 : decode cX7_lowest 12 = .ok (.invokestatic 171, 3) := by decide +kernel
theorem dX7_lowest_15 : decode cX7_lowest 15 = .ok (.ldiv, 1) := by decide +kernel
theorem dX7_lowest_16 : decode cX7_lowest 16 = .ok (.lreturn, 1) := by decide +kernel
theorem dX7_bestNow_0 : decode cX7_bestNow 0 = .ok (.iload_n 1, 1) := by decide +kernel
theorem dX7_bestNow_1 : decode cX7_bestNow 1 = .ok (.ifCond .ne 11, 3) := by decide +kernel
theorem dX7_bestNow_4 : decode cX7_bestNow 4 = .ok (.aload_n 0, 1) := by decide +kernel
theorem dX7_bestNow_5 : decode cX7_bestNow 5 = .ok (.getfield 149, 3) := by decide +kernel
theorem dX7_bestNow_8 : decode cX7_bestNow 8 = .ok (.i2l, 1) := by decide +kernel
theorem dX7_bestNow_9 : decode cX7_bestNow 9 = .ok (.goto 30, 3) := by decide +kernel
theorem dX7_bestNow_12 : decode cX7_bestNow 12 = .ok (.iload_n 1, 1) := by decide +kernel
theorem dX7_bestNow_13 : decode cX7_bestNow 13 = .ok (.iconst 3, 1) := by decide +kernel
theorem dX7_bestNow_14 : decode cX7_bestNow 14 = .ok (.if_icmp .ne 11, 3) := by decide +kernel
theorem dX7_bestNow_17 : decode cX7_bestNow 17 = .ok (.aload_n 0, 1) := by decide +kernel
theorem dX7_bestNow_18 : decode cX7_bestNow 18 = .ok (.getfield 152, 3) := by decide +kernel
theorem dX7_bestNow_21 : decode cX7_bestNow 21 = .ok (.i2l, 1) := by decide +kernel
theorem dX7_bestNow_22 : decode cX7_bestNow 22 = .ok (.goto 17, 3) := by decide +kernel
theorem dX7_bestNow_25 : decode cX7_bestNow 25 = .ok (.aload_n 0, 1) := by decide +kernel
theorem dX7_bestNow_26 : decode cX7_bestNow 26 = .ok (.getfield 146, 3) := by decide +kernel
theorem dX7_bestNow_29 : decode cX7_bestNow 29 = .ok (.aload_n 0, 1) := by decide +kernel
theorem dX7_bestNow_30 : decode cX7_bestNow 30 = .ok (.getfield 142, 3) := by decide +kernel
theorem dX7_bestNow_33 : decode cX7_bestNow 33 = .ok (.iload_n 1, 1) := by decide +kernel
theorem dX7_bestNow_34 : decode cX7_bestNow 34 = .ok (.iconst 1, 1) := by decide +kernel
theorem dX7_bestNow_35 : decode cX7_bestNow 35 = .ok (.isub, 1) := by decide +kernel
theorem dX7_bestNow_36 : decode cX7_bestNow 36 = .ok (.invokestatic 175, 3) := by decide +kernel
theorem dX7_bestNow_39 : decode cX7_bestNow 39 = .ok (.lreturn, 1) := by decide +kernel
theorem dX7_best_0 : decode cX7_best 0 = .ok (.aload_n 0, 1) := by decide +kernel
theorem dX7_best_1 : decode cX7_best 1 = .ok (.getfield 78, 3) := by decide +kernel
theorem dX7_best_4 : decode cX7_best 4 = .ok (.ifCond .ne 7, 3) := by decide +kernel
theorem dX7_best_7 : decode cX7_best 7 = .ok (.ldc2_w 76, 3) := by decide +kernel
theorem dX7_best_10 : decode cX7_best 10 = .ok (.lreturn, 1) := by decide +kernel
theorem dX7_best_11 : decode cX7_best 11 = .ok (.aload_n 0, 1) := by decide +kernel
theorem dX7_best_12 : decode cX7_best 12 = .ok (.iload_n 1, 1) := by decide +kernel
theorem dX7_best_13 : decode cX7_best 13 = .ok (.invokevirtual 115, 3) := by decide +kernel
theorem dX7_best_16 : decode cX7_best 16 = .ok (.ifCond .eq 12, 3) := by decide +kernel
theorem dX7_best_19 : decode cX7_best 19 = .ok (.iload_n 2, 1) := by decide +kernel
theorem dX7_best_20 : decode cX7_best 20 = .ok (.iconst 0, 1) := by decide +kernel
theorem dX7_best_21 : decode cX7_best 21 = .ok (.iconst 3, 1) := by decide +kernel
theorem dX7_best_22 : decode cX7_best 22 = .ok (.invokestatic 38, 3) := by decide +kernel
theorem dX7_best_25 : decode cX7_best 25 = .ok (.ifCond .ne 7, 3) := by decide +kernel
theorem dX7_best_28 : decode cX7_best 28 = .ok (.ldc2_w 42, 3) := by decide +kernel
theorem dX7_best_31 : decode cX7_best 31 = .ok (.lreturn, 1) := by decide +kernel
theorem dX7_best_32 : decode cX7_best 32 = .ok (.aload_n 0, 1) := by decide +kernel
theorem dX7_best_33 : decode cX7_best 33 = .ok (.iload_n 1, 1) := by decide +kernel
theorem dX7_best_34 : decode cX7_best 34 = .ok (.invokevirtual 179, 3) := by decide +kernel
theorem dX7_best_37 : decode cX7_best 37 = .ok (.aload_n 0, 1) := by decide +kernel
theorem dX7_best_38 : decode cX7_best 38 = .ok (.iload_n 2, 1) := by decide +kernel
theorem dX7_best_39 : decode cX7_best 39 = .ok (.invokevirtual 182, 3) := by decide +kernel
theorem dX7_best_42 : decode cX7_best 42 = .ok (.lreturn, 1) := by decide +kernel
theorem dX7_shareNow_0 : decode cX7_shareNow 0 = .ok (.aload_n 0, 1) := by decide +kernel
theorem dX7_shareNow_1 : decode cX7_shareNow 1 = .ok (.getfield 28, 3) := by decide +kernel
theorem dX7_shareNow_4 : decode cX7_shareNow 4 = .ok (.iload_n 1, 1) := by decide +kernel
theorem dX7_shareNow_5 : decode cX7_shareNow 5 = .ok (.laload, 1) := by decide +kernel
theorem dX7_shareNow_6 : decode cX7_shareNow 6 = .ok (.aload_n 0, 1) := by decide +kernel
theorem dX7_shareNow_7 : decode cX7_shareNow 7 = .ok (.getfield 142, 3) := by decide +kernel
theorem dX7_shareNow_10 : decode cX7_shareNow 10 = .ok (.iload_n 2, 1) := by decide +kernel
theorem dX7_shareNow_11 : decode cX7_shareNow 11 = .ok (.invokestatic 175, 3) := by decide +kernel
theorem dX7_shareNow_14 : decode cX7_shareNow 14 = .ok (.lreturn, 1) := by decide +kernel
theorem dX7_share_0 : decode cX7_share 0 = .ok (.aload_n 0, 1) := by decide +kernel
theorem dX7_share_1 : decode cX7_share 1 = .ok (.iload_n 1, 1) := by decide +kernel
theorem dX7_share_2 : decode cX7_share 2 = .ok (.invokevirtual 95, 3) := by decide +kernel
theorem dX7_share_5 : decode cX7_share 5 = .ok (.ifCond .ne 7, 3) := by decide +kernel
theorem dX7_share_8 : decode cX7_share 8 = .ok (.ldc2_w 90, 3) := by decide +kernel
theorem dX7_share_11 : decode cX7_share 11 = .ok (.lreturn, 1) := by decide +kernel
theorem dX7_share_12 : decode cX7_share 12 = .ok (.aload_n 0, 1) := by decide +kernel
theorem dX7_share_13 : decode cX7_share 13 = .ok (.iload_n 2, 1) := by decide +kernel
theorem dX7_share_14 : decode cX7_share 14 = .ok (.invokevirtual 115, 3) := by decide +kernel
theorem dX7_share_17 : decode cX7_share 17 = .ok (.ifCond .eq 12, 3) := by decide +kernel
theorem dX7_share_20 : decode cX7_share 20 = .ok (.iload_n 3, 1) := by decide +kernel
theorem dX7_share_21 : decode cX7_share 21 = .ok (.iconst 0, 1) := by decide +kernel
theorem dX7_share_22 : decode cX7_share 22 = .ok (.iconst 1, 1) := by decide +kernel
theorem dX7_share_23 : decode cX7_share 23 = .ok (.invokestatic 38, 3) := by decide +kernel
theorem dX7_share_26 : decode cX7_share 26 = .ok (.ifCond .ne 7, 3) := by decide +kernel
theorem dX7_share_29 : decode cX7_share 29 = .ok (.ldc2_w 42, 3) := by decide +kernel
theorem dX7_share_32 : decode cX7_share 32 = .ok (.lreturn, 1) := by decide +kernel
theorem dX7_share_33 : decode cX7_share 33 = .ok (.aload_n 0, 1) := by decide +kernel
theorem dX7_share_34 : decode cX7_share 34 = .ok (.iload_n 2, 1) := by decide +kernel
theorem dX7_share_35 : decode cX7_share 35 = .ok (.invokevirtual 179, 3) := by decide +kernel
theorem dX7_share_38 : decode cX7_share 38 = .ok (.aload_n 0, 1) := by decide +kernel
theorem dX7_share_39 : decode cX7_share 39 = .ok (.iload_n 1, 1) := by decide +kernel
theorem dX7_share_40 : decode cX7_share 40 = .ok (.iload_n 3, 1) := by decide +kernel
theorem dX7_share_41 : decode cX7_share 41 = .ok (.invokevirtual 185, 3) := by decide +kernel
theorem dX7_share_44 : decode cX7_share 44 = .ok (.lreturn, 1) := by decide +kernel
theorem dX7_mixedAbove_0 : decode cX7_mixedAbove 0 = .ok (.lconst 0, 1) := by decide +kernel
theorem dX7_mixedAbove_1 : decode cX7_mixedAbove 1 = .ok (.lstore_n 2, 1) := by decide +kernel
theorem dX7_mixedAbove_2 : decode cX7_mixedAbove 2 = .ok (.iconst 0, 1) := by decide +kernel
theorem dX7_mixedAbove_3 : decode cX7_mixedAbove 3 = .ok (.istore 4, 2) := by decide +kernel
theorem dX7_mixedAbove_5 : decode cX7_mixedAbove 5 = .ok (.iload 4, 2) := by decide +kernel
theorem dX7_mixedAbove_7 : decode cX7_mixedAbove 7 = .ok (.aload_n 0, 1) := by decide +kernel
theorem dX7_mixedAbove_8 : decode cX7_mixedAbove 8 = .ok (.getfield 78, 3) := by decide +kernel
theorem dX7_mixedAbove_11 : decode cX7_mixedAbove 11 = .ok (.if_icmp .ge 32, 3) := by decide +kernel
theorem dX7_mixedAbove_14 : decode cX7_mixedAbove 14 = .ok (.lload_n 2, 1) := by decide +kernel
theorem dX7_mixedAbove_15 : decode cX7_mixedAbove 15 = .ok (.aload_n 0, 1) := by decide +kernel
theorem dX7_mixedAbove_16 : decode cX7_mixedAbove 16 = .ok (.getfield 28, 3) := by decide +kernel
theorem dX7_mixedAbove_19 : decode cX7_mixedAbove 19 = .ok (.iload 4, 2) := by decide +kernel
theorem dX7_mixedAbove_21 : decode cX7_mixedAbove 21 = .ok (.laload, 1) := by decide +kernel
theorem dX7_mixedAbove_22 : decode cX7_mixedAbove 22 = .ok (.aload_n 0, 1) := by decide +kernel
theorem dX7_mixedAbove_23 : decode cX7_mixedAbove 23 = .ok (.getfield 13, 3) := by decide +kernel
theorem dX7_mixedAbove_26 : decode cX7_mixedAbove 26 = .ok (.iconst 4, 1) := by decide +kernel
theorem dX7_mixedAbove_27 : decode cX7_mixedAbove 27 = .ok (.iload 4, 2) := by decide +kernel
theorem dX7_mixedAbove_29 : decode cX7_mixedAbove 29 = .ok (.imul, 1) := by decide +kernel
theorem dX7_mixedAbove_30 : decode cX7_mixedAbove 30 = .ok (.iload_n 1, 1) := by decide +kernel
theorem dX7_mixedAbove_31 : decode cX7_mixedAbove 31 = .ok (.iadd, 1) := by decide +kernel
theorem dX7_mixedAbove_32 : decode cX7_mixedAbove 32 = .ok (.iaload, 1) := by decide +kernel
theorem dX7_mixedAbove_33 : decode cX7_mixedAbove 33 = .ok (.i2l, 1) := by decide +kernel
theorem dX7_mixedAbove_34 : decode cX7_mixedAbove 34 = .ok (.lmul, 1) := by decide +kernel
theorem dX7_mixedAbove_35 : decode cX7_mixedAbove 35 = .ok (.ladd, 1) := by decide +kernel
theorem dX7_mixedAbove_36 : decode cX7_mixedAbove 36 = .ok (.lstore_n 2, 1) := by decide +kernel
theorem dX7_mixedAbove_37 : decode cX7_mixedAbove 37 = .ok (.iinc 4 1, 3) := by decide +kernel
theorem dX7_mixedAbove_40 : decode cX7_mixedAbove 40 = .ok (.goto (-35), 3) := by decide +kernel
theorem dX7_mixedAbove_43 : decode cX7_mixedAbove 43 = .ok (.lload_n 2, 1) := by decide +kernel
theorem dX7_mixedAbove_44 : decode cX7_mixedAbove 44 = .ok (.lreturn, 1) := by decide +kernel
theorem dX7_pressNow_0 : decode cX7_pressNow 0 = .ok (.lconst 0, 1) := by decide +kernel
theorem dX7_pressNow_1 : decode cX7_pressNow 1 = .ok (.lstore 4, 2) := by decide +kernel
theorem dX7_pressNow_3 : decode cX7_pressNow 3 = .ok (.iconst 0, 1) := by decide +kernel
theorem dX7_pressNow_4 : decode cX7_pressNow 4 = .ok (.istore 6, 2) := by decide +kernel
theorem dX7_pressNow_6 : decode cX7_pressNow 6 = .ok (.iload 6, 2) := by decide +kernel
theorem dX7_pressNow_8 : decode cX7_pressNow 8 = .ok (.aload_n 0, 1) := by decide +kernel
theorem dX7_pressNow_9 : decode cX7_pressNow 9 = .ok (.getfield 81, 3) := by decide +kernel
theorem dX7_pressNow_12 : decode cX7_pressNow 12 = .ok (.if_icmp .ge 90, 3) := by decide +kernel
theorem dX7_pressNow_15 : decode cX7_pressNow 15 = .ok (.aload_n 0, 1) := by decide +kernel
theorem dX7_pressNow_16 : decode cX7_pressNow 16 = .ok (.getfield 13, 3) := by decide +kernel
theorem dX7_pressNow_19 : decode cX7_pressNow 19 = .ok (.iconst 4, 1) := by decide +kernel
theorem dX7_pressNow_20 : decode cX7_pressNow 20 = .ok (.iload_n 1, 1) := by decide +kernel
theorem dX7_pressNow_21 : decode cX7_pressNow 21 = .ok (.imul, 1) := by decide +kernel
theorem dX7_pressNow_22 : decode cX7_pressNow 22 = .ok (.iload 6, 2) := by decide +kernel
theorem dX7_pressNow_24 : decode cX7_pressNow 24 = .ok (.iadd, 1) := by decide +kernel
theorem dX7_pressNow_25 : decode cX7_pressNow 25 = .ok (.iaload, 1) := by decide +kernel
theorem dX7_pressNow_26 : decode cX7_pressNow 26 = .ok (.aload_n 0, 1) := by decide +kernel
theorem dX7_pressNow_27 : decode cX7_pressNow 27 = .ok (.getfield 13, 3) := by decide +kernel
theorem dX7_pressNow_30 : decode cX7_pressNow 30 = .ok (.iconst 4, 1) := by decide +kernel
theorem dX7_pressNow_31 : decode cX7_pressNow 31 = .ok (.aload_n 0, 1) := by decide +kernel
theorem dX7_pressNow_32 : decode cX7_pressNow 32 = .ok (.getfield 25, 3) := by decide +kernel
theorem dX7_pressNow_35 : decode cX7_pressNow 35 = .ok (.iconst 0, 1) := by decide +kernel
theorem dX7_pressNow_36 : decode cX7_pressNow 36 = .ok (.iaload, 1) := by decide +kernel
theorem dX7_pressNow_37 : decode cX7_pressNow 37 = .ok (.imul, 1) := by decide +kernel
theorem dX7_pressNow_38 : decode cX7_pressNow 38 = .ok (.iload 6, 2) := by decide +kernel
theorem dX7_pressNow_40 : decode cX7_pressNow 40 = .ok (.iadd, 1) := by decide +kernel
theorem dX7_pressNow_41 : decode cX7_pressNow 41 = .ok (.iaload, 1) := by decide +kernel
theorem dX7_pressNow_42 : decode cX7_pressNow 42 = .ok (.isub, 1) := by decide +kernel
theorem dX7_pressNow_43 : decode cX7_pressNow 43 = .ok (.i2l, 1) := by decide +kernel
theorem dX7_pressNow_44 : decode cX7_pressNow 44 = .ok (.lstore 7, 2) := by decide +kernel
theorem dX7_pressNow_46 : decode cX7_pressNow 46 = .ok (.lload 4, 2) := by decide +kernel
theorem dX7_pressNow_48 : decode cX7_pressNow 48 = .ok (.iload_n 2, 1) := by decide +kernel
theorem dX7_pressNow_49 : decode cX7_pressNow 49 = .ok (.iload 6, 2) := by decide +kernel
theorem dX7_pressNow_51 : decode cX7_pressNow 51 = .ok (.invokestatic 108, 3) := by decide +kernel
theorem dX7_pressNow_54 : decode cX7_pressNow 54 = .ok (.ifCond .eq 38, 3) := by decide +kernel
theorem dX7_pressNow_57 : decode cX7_pressNow 57 = .ok (.aload_n 0, 1) := by decide +kernel
theorem dX7_pressNow_58 : decode cX7_pressNow 58 = .ok (.getfield 19, 3) := by decide +kernel
theorem dX7_pressNow_61 : decode cX7_pressNow 61 = .ok (.iload 6, 2) := by decide +kernel
theorem dX7_pressNow_63 : decode cX7_pressNow 63 = .ok (.iaload, 1) := by decide +kernel
theorem dX7_pressNow_64 : decode cX7_pressNow 64 = .ok (.i2l, 1) := by decide +kernel
theorem dX7_pressNow_65 : decode cX7_pressNow 65 = .ok (.lload 7, 2) := by decide +kernel
theorem dX7_pressNow_67 : decode cX7_pressNow 67 = .ok (.lmul, 1) := by decide +kernel
theorem dX7_pressNow_68 : decode cX7_pressNow 68 = .ok (.aload_n 0, 1) := by decide +kernel
theorem dX7_pressNow_69 : decode cX7_pressNow 69 = .ok (.iload 6, 2) := by decide +kernel
theorem dX7_pressNow_71 : decode cX7_pressNow 71 = .ok (.invokevirtual 188, 3) := by decide +kernel
theorem dX7_pressNow_74 : decode cX7_pressNow 74 = .ok (.aload_n 0, 1) := by decide +kernel
theorem dX7_pressNow_75 : decode cX7_pressNow 75 = .ok (.getfield 16, 3) := by decide +kernel
theorem dX7_pressNow_78 : decode cX7_pressNow 78 = .ok (.iload 6, 2) := by decide +kernel
theorem dX7_pressNow_80 : decode cX7_pressNow 80 = .ok (.iaload, 1) := by decide +kernel
theorem dX7_pressNow_81 : decode cX7_pressNow 81 = .ok (.i2l, 1) := by decide +kernel
theorem dX7_pressNow_82 : decode cX7_pressNow 82 = .ok (.aload_n 0, 1) := by decide +kernel
theorem dX7_pressNow_83 : decode cX7_pressNow 83 = .ok (.getfield 142, 3) := by decide +kernel
theorem dX7_pressNow_86 : decode cX7_pressNow 86 = .ok (.lmul, 1) := by decide +kernel
theorem dX7_pressNow_87 : decode cX7_pressNow 87 = .ok (.lsub, 1) := by decide +kernel
theorem dX7_pressNow_88 : decode cX7_pressNow 88 = .ok (.lmul, 1) := by decide +kernel
theorem dX7_pressNow_89 : decode cX7_pressNow 89 = .ok (.goto 4, 3) := by decide +kernel
theorem dX7_pressNow_92 : decode cX7_pressNow 92 = .ok (.lconst 0, 1) := by decide +kernel
theorem dX7_pressNow_93 : decode cX7_pressNow 93 = .ok (.ladd, 1) := by decide +kernel
theorem dX7_pressNow_94 : decode cX7_pressNow 94 = .ok (.lstore 4, 2) := by decide +kernel
theorem dX7_pressNow_96 : decode cX7_pressNow 96 = .ok (.iinc 6 1, 3) := by decide +kernel
theorem dX7_pressNow_99 : decode cX7_pressNow 99 = .ok (.goto (-93), 3) := by decide +kernel
theorem dX7_pressNow_102 : decode cX7_pressNow 102 = .ok (.lload 4, 2) := by decide +kernel
theorem dX7_pressNow_104 : decode cX7_pressNow 104 = .ok (.aload_n 0, 1) := by decide +kernel
theorem dX7_pressNow_105 : decode cX7_pressNow 105 = .ok (.getfield 142, 3) := by decide +kernel
theorem dX7_pressNow_108 : decode cX7_pressNow 108 = .ok (.iload_n 3, 1) := by decide +kernel
theorem dX7_pressNow_109 : decode cX7_pressNow 109 = .ok (.invokestatic 175, 3) := by decide +kernel
theorem dX7_pressNow_112 : decode cX7_pressNow 112 = .ok (.lreturn, 1) := by decide +kernel
theorem dX7_press_0 : decode cX7_press 0 = .ok (.aload_n 0, 1) := by decide +kernel
theorem dX7_press_1 : decode cX7_press 1 = .ok (.iload_n 1, 1) := by decide +kernel
theorem dX7_press_2 : decode cX7_press 2 = .ok (.invokevirtual 95, 3) := by decide +kernel
theorem dX7_press_5 : decode cX7_press 5 = .ok (.ifCond .ne 7, 3) := by decide +kernel
theorem dX7_press_8 : decode cX7_press 8 = .ok (.ldc2_w 90, 3) := by decide +kernel
theorem dX7_press_11 : decode cX7_press 11 = .ok (.lreturn, 1) := by decide +kernel
theorem dX7_press_12 : decode cX7_press 12 = .ok (.aload_n 0, 1) := by decide +kernel
theorem dX7_press_13 : decode cX7_press 13 = .ok (.iload_n 2, 1) := by decide +kernel
theorem dX7_press_14 : decode cX7_press 14 = .ok (.invokevirtual 115, 3) := by decide +kernel
theorem dX7_press_17 : decode cX7_press 17 = .ok (.ifCond .eq 12, 3) := by decide +kernel
theorem dX7_press_20 : decode cX7_press 20 = .ok (.iload_n 3, 1) := by decide +kernel
theorem dX7_press_21 : decode cX7_press 21 = .ok (.iconst 0, 1) := by decide +kernel
theorem dX7_press_22 : decode cX7_press 22 = .ok (.iconst 1, 1) := by decide +kernel
theorem dX7_press_23 : decode cX7_press 23 = .ok (.invokestatic 38, 3) := by decide +kernel
theorem dX7_press_26 : decode cX7_press 26 = .ok (.ifCond .ne 7, 3) := by decide +kernel
theorem dX7_press_29 : decode cX7_press 29 = .ok (.ldc2_w 42, 3) := by decide +kernel
theorem dX7_press_32 : decode cX7_press 32 = .ok (.lreturn, 1) := by decide +kernel
theorem dX7_press_33 : decode cX7_press 33 = .ok (.aload_n 0, 1) := by decide +kernel
theorem dX7_press_34 : decode cX7_press 34 = .ok (.iload_n 2, 1) := by decide +kernel
theorem dX7_press_35 : decode cX7_press 35 = .ok (.invokevirtual 179, 3) := by decide +kernel
theorem dX7_press_38 : decode cX7_press 38 = .ok (.aload_n 0, 1) := by decide +kernel
theorem dX7_press_39 : decode cX7_press 39 = .ok (.iload_n 1, 1) := by decide +kernel
theorem dX7_press_40 : decode cX7_press 40 = .ok (.iload_n 2, 1) := by decide +kernel
theorem dX7_press_41 : decode cX7_press 41 = .ok (.iload_n 3, 1) := by decide +kernel
theorem dX7_press_42 : decode cX7_press 42 = .ok (.invokevirtual 191, 3) := by decide +kernel
theorem dX7_press_45 : decode cX7_press 45 = .ok (.lreturn, 1) := by decide +kernel
theorem dX7_mixed_0 : decode cX7_mixed 0 = .ok (.aload_n 0, 1) := by decide +kernel
theorem dX7_mixed_1 : decode cX7_mixed 1 = .ok (.iload_n 1, 1) := by decide +kernel
theorem dX7_mixed_2 : decode cX7_mixed 2 = .ok (.invokevirtual 87, 3) := by decide +kernel
theorem dX7_mixed_5 : decode cX7_mixed 5 = .ok (.ifCond .ne 7, 3) := by decide +kernel
theorem dX7_mixed_8 : decode cX7_mixed 8 = .ok (.ldc2_w 90, 3) := by decide +kernel
theorem dX7_mixed_11 : decode cX7_mixed 11 = .ok (.lreturn, 1) := by decide +kernel
theorem dX7_mixed_12 : decode cX7_mixed 12 = .ok (.aload_n 0, 1) := by decide +kernel
theorem dX7_mixed_13 : decode cX7_mixed 13 = .ok (.iload_n 2, 1) := by decide +kernel
theorem dX7_mixed_14 : decode cX7_mixed 14 = .ok (.invokevirtual 115, 3) := by decide +kernel
theorem dX7_mixed_17 : decode cX7_mixed 17 = .ok (.ifCond .eq 12, 3) := by decide +kernel
theorem dX7_mixed_20 : decode cX7_mixed 20 = .ok (.iload_n 3, 1) := by decide +kernel
theorem dX7_mixed_21 : decode cX7_mixed 21 = .ok (.iconst 0, 1) := by decide +kernel
theorem dX7_mixed_22 : decode cX7_mixed 22 = .ok (.iconst 1, 1) := by decide +kernel
theorem dX7_mixed_23 : decode cX7_mixed 23 = .ok (.invokestatic 38, 3) := by decide +kernel
theorem dX7_mixed_26 : decode cX7_mixed 26 = .ok (.ifCond .ne 7, 3) := by decide +kernel
theorem dX7_mixed_29 : decode cX7_mixed 29 = .ok (.ldc2_w 42, 3) := by decide +kernel
theorem dX7_mixed_32 : decode cX7_mixed 32 = .ok (.lreturn, 1) := by decide +kernel
theorem dX7_mixed_33 : decode cX7_mixed 33 = .ok (.aload_n 0, 1) := by decide +kernel
theorem dX7_mixed_34 : decode cX7_mixed 34 = .ok (.iload_n 2, 1) := by decide +kernel
theorem dX7_mixed_35 : decode cX7_mixed 35 = .ok (.invokevirtual 179, 3) := by decide +kernel
theorem dX7_mixed_38 : decode cX7_mixed 38 = .ok (.aload_n 0, 1) := by decide +kernel
theorem dX7_mixed_39 : decode cX7_mixed 39 = .ok (.iload_n 1, 1) := by decide +kernel
theorem dX7_mixed_40 : decode cX7_mixed 40 = .ok (.invokevirtual 188, 3) := by decide +kernel
theorem dX7_mixed_43 : decode cX7_mixed 43 = .ok (.aload_n 0, 1) := by decide +kernel
theorem dX7_mixed_44 : decode cX7_mixed 44 = .ok (.getfield 142, 3) := by decide +kernel
theorem dX7_mixed_47 : decode cX7_mixed 47 = .ok (.iload_n 3, 1) := by decide +kernel
theorem dX7_mixed_48 : decode cX7_mixed 48 = .ok (.invokestatic 175, 3) := by decide +kernel
theorem dX7_mixed_51 : decode cX7_mixed 51 = .ok (.lreturn, 1) := by decide +kernel
theorem dX7_corner_0 : decode cX7_corner 0 = .ok (.aload_n 0, 1) := by decide +kernel
theorem dX7_corner_1 : decode cX7_corner 1 = .ok (.getfield 78, 3) := by decide +kernel
theorem dX7_corner_4 : decode cX7_corner 4 = .ok (.ifCond .ne 7, 3) := by decide +kernel
theorem dX7_corner_7 : decode cX7_corner 7 = .ok (.ldc2_w 76, 3) := by decide +kernel
theorem dX7_corner_10 : decode cX7_corner 10 = .ok (.lreturn, 1) := by decide +kernel
theorem dX7_corner_11 : decode cX7_corner 11 = .ok (.iload_n 1, 1) := by decide +kernel
theorem dX7_corner_12 : decode cX7_corner 12 = .ok (.iconst 1, 1) := by decide +kernel
theorem dX7_corner_13 : decode cX7_corner 13 = .ok (.iconst 1, 1) := by decide +kernel
theorem dX7_corner_14 : decode cX7_corner 14 = .ok (.aload_n 0, 1) := by decide +kernel
theorem dX7_corner_15 : decode cX7_corner 15 = .ok (.getfield 78, 3) := by decide +kernel
theorem dX7_corner_18 : decode cX7_corner 18 = .ok (.ishl, 1) := by decide +kernel
theorem dX7_corner_19 : decode cX7_corner 19 = .ok (.iconst 1, 1) := by decide +kernel
theorem dX7_corner_20 : decode cX7_corner 20 = .ok (.isub, 1) := by decide +kernel
theorem dX7_corner_21 : decode cX7_corner 21 = .ok (.invokestatic 38, 3) := by decide +kernel
theorem dX7_corner_24 : decode cX7_corner 24 = .ok (.ifCond .eq 20, 3) := by decide +kernel
theorem dX7_corner_27 : decode cX7_corner 27 = .ok (.aload_n 0, 1) := by decide +kernel
theorem dX7_corner_28 : decode cX7_corner 28 = .ok (.iload_n 2, 1) := by decide +kernel
theorem dX7_corner_29 : decode cX7_corner 29 = .ok (.invokevirtual 115, 3) := by decide +kernel
theorem dX7_corner_32 : decode cX7_corner 32 = .ok (.ifCond .eq 12, 3) := by decide +kernel
theorem dX7_corner_35 : decode cX7_corner 35 = .ok (.iload_n 3, 1) := by decide +kernel
theorem dX7_corner_36 : decode cX7_corner 36 = .ok (.iconst 0, 1) := by decide +kernel
theorem dX7_corner_37 : decode cX7_corner 37 = .ok (.iconst 2, 1) := by decide +kernel
theorem dX7_corner_38 : decode cX7_corner 38 = .ok (.invokestatic 38, 3) := by decide +kernel
theorem dX7_corner_41 : decode cX7_corner 41 = .ok (.ifCond .ne 7, 3) := by decide +kernel
theorem dX7_corner_44 : decode cX7_corner 44 = .ok (.ldc2_w 42, 3) := by decide +kernel
theorem dX7_corner_47 : decode cX7_corner 47 = .ok (.lreturn, 1) := by decide +kernel
theorem dX7_corner_48 : decode cX7_corner 48 = .ok (.aload_n 0, 1) := by decide +kernel
theorem dX7_corner_49 : decode cX7_corner 49 = .ok (.iload_n 1, 1) := by decide +kernel
theorem dX7_corner_50 : decode cX7_corner 50 = .ok (.iload_n 2, 1) := by decide +kernel
theorem dX7_corner_51 : decode cX7_corner 51 = .ok (.invokevirtual 155, 3) := by decide +kernel
theorem dX7_corner_54 : decode cX7_corner 54 = .ok (.iload_n 3, 1) := by decide +kernel
theorem dX7_corner_55 : decode cX7_corner 55 = .ok (.ifCond .ne 16, 3) := by decide +kernel
theorem dX7_corner_58 : decode cX7_corner 58 = .ok (.aload_n 0, 1) := by decide +kernel
theorem dX7_corner_59 : decode cX7_corner 59 = .ok (.invokevirtual 159, 3) := by decide +kernel
theorem dX7_corner_62 : decode cX7_corner 62 = .ok (.ifCond .eq 7, 3) := by decide +kernel
theorem dX7_corner_65 : decode cX7_corner 65 = .ok (.lconst 1, 1) := by decide +kernel
theorem dX7_corner_66 : decode cX7_corner 66 = .ok (.goto 4, 3) := by decide +kernel
theorem dX7_corner_69 : decode cX7_corner 69 = .ok (.lconst 0, 1) := by decide +kernel
theorem dX7_corner_70 : decode cX7_corner 70 = .ok (.lreturn, 1) := by decide +kernel
theorem dX7_corner_71 : decode cX7_corner 71 = .ok (.aload_n 0, 1) := by decide +kernel
theorem dX7_corner_72 : decode cX7_corner 72 = .ok (.getfield 142, 3) := by decide +kernel
theorem dX7_corner_75 : decode cX7_corner 75 = .ok (.lconst 0, 1) := by decide +kernel
theorem dX7_corner_76 : decode cX7_corner 76 = .ok (.lcmp, 1) := by decide +kernel
theorem dX7_corner_77 : decode cX7_corner 77 = .ok (.ifCond .ne 9, 3) := by decide +kernel
theorem dX7_corner_80 : decode cX7_corner 80 = .ok (.ldc2_w 102, 3) := by decide +kernel
theorem dX7_corner_83 : decode cX7_corner 83 = .ok (.goto 17, 3) := by decide +kernel
theorem dX7_corner_86 : decode cX7_corner 86 = .ok (.aload_n 0, 1) := by decide +kernel
theorem dX7_corner_87 : decode cX7_corner 87 = .ok (.getfield 146, 3) := by decide +kernel
theorem dX7_corner_90 : decode cX7_corner 90 = .ok (.aload_n 0, 1) := by decide +kernel
theorem dX7_corner_91 : decode cX7_corner 91 = .ok (.getfield 142, 3) := by decide +kernel
theorem dX7_corner_94 : decode cX7_corner 94 = .ok (.iload_n 3, 1) := by decide +kernel
theorem dX7_corner_95 : decode cX7_corner 95 = .ok (.iconst 1, 1) := by decide +kernel
theorem dX7_corner_96 : decode cX7_corner 96 = .ok (.isub, 1) := by decide +kernel
theorem dX7_corner_97 : decode cX7_corner 97 = .ok (.invokestatic 175, 3) := by decide +kernel
theorem dX7_corner_100 : decode cX7_corner 100 = .ok (.lreturn, 1) := by decide +kernel
theorem dX7_howMany_0 : decode cX7_howMany 0 = .ok (.iload_n 1, 1) := by decide +kernel
theorem dX7_howMany_1 : decode cX7_howMany 1 = .ok (.tableswitch 65 0 4 #[35, 41, 47, 53, 59], 35) := by decide +kernel
theorem dX7_howMany_36 : decode cX7_howMany 36 = .ok (.aload_n 0, 1) := by decide +kernel
theorem dX7_howMany_37 : decode cX7_howMany 37 = .ok (.getfield 78, 3) := by decide +kernel
theorem dX7_howMany_40 : decode cX7_howMany 40 = .ok (.i2l, 1) := by decide +kernel
theorem dX7_howMany_41 : decode cX7_howMany 41 = .ok (.lreturn, 1) := by decide +kernel
theorem dX7_howMany_42 : decode cX7_howMany 42 = .ok (.aload_n 0, 1) := by decide +kernel
theorem dX7_howMany_43 : decode cX7_howMany 43 = .ok (.getfield 81, 3) := by decide +kernel
theorem dX7_howMany_46 : decode cX7_howMany 46 = .ok (.i2l, 1) := by decide +kernel
theorem dX7_howMany_47 : decode cX7_howMany 47 = .ok (.lreturn, 1) := by decide +kernel
theorem dX7_howMany_48 : decode cX7_howMany 48 = .ok (.aload_n 0, 1) := by decide +kernel
theorem dX7_howMany_49 : decode cX7_howMany 49 = .ok (.getfield 44, 3) := by decide +kernel
theorem dX7_howMany_52 : decode cX7_howMany 52 = .ok (.i2l, 1) := by decide +kernel
theorem dX7_howMany_53 : decode cX7_howMany 53 = .ok (.lreturn, 1) := by decide +kernel
theorem dX7_howMany_54 : decode cX7_howMany 54 = .ok (.aload_n 0, 1) := by decide +kernel
theorem dX7_howMany_55 : decode cX7_howMany 55 = .ok (.getfield 84, 3) := by decide +kernel
theorem dX7_howMany_58 : decode cX7_howMany 58 = .ok (.i2l, 1) := by decide +kernel
theorem dX7_howMany_59 : decode cX7_howMany 59 = .ok (.lreturn, 1) := by decide +kernel
theorem dX7_howMany_60 : decode cX7_howMany 60 = .ok (.aload_n 0, 1) := by decide +kernel
theorem dX7_howMany_61 : decode cX7_howMany 61 = .ok (.getfield 92, 3) := by decide +kernel
theorem dX7_howMany_64 : decode cX7_howMany 64 = .ok (.i2l, 1) := by decide +kernel
theorem dX7_howMany_65 : decode cX7_howMany 65 = .ok (.lreturn, 1) := by decide +kernel
theorem dX7_howMany_66 : decode cX7_howMany 66 = .ok (.ldc2_w 42, 3) := by decide +kernel
theorem dX7_howMany_69 : decode cX7_howMany 69 = .ok (.lreturn, 1) := by decide +kernel
theorem dX7_count_0 : decode cX7_count 0 = .ok (.aload_n 0, 1) := by decide +kernel
theorem dX7_count_1 : decode cX7_count 1 = .ok (.iload_n 1, 1) := by decide +kernel
theorem dX7_count_2 : decode cX7_count 2 = .ok (.invokevirtual 194, 3) := by decide +kernel
theorem dX7_count_5 : decode cX7_count 5 = .ok (.lreturn, 1) := by decide +kernel
theorem dX7_mix_0 : decode cX7_mix 0 = .ok (.aload_n 0, 1) := by decide +kernel
theorem dX7_mix_1 : decode cX7_mix 1 = .ok (.ldc2_w 197, 3) := by decide +kernel
theorem dX7_mix_4 : decode cX7_mix 4 = .ok (.aload_n 0, 1) := by decide +kernel
theorem dX7_mix_5 : decode cX7_mix 5 = .ok (.getfield 199, 3) := by decide +kernel
theorem dX7_mix_8 : decode cX7_mix 8 = .ok (.lmul, 1) := by decide +kernel
theorem dX7_mix_9 : decode cX7_mix 9 = .ok (.lload_n 1, 1) := by decide +kernel
theorem dX7_mix_10 : decode cX7_mix 10 = .ok (.ladd, 1) := by decide +kernel
theorem dX7_mix_11 : decode cX7_mix 11 = .ok (.putfield 199, 3) := by decide +kernel
theorem dX7_mix_14 : decode cX7_mix 14 = .ok (.return_, 1) := by decide +kernel
theorem dX7_mixBy_0 : decode cX7_mixBy 0 = .ok (.aload_n 0, 1) := by decide +kernel
theorem dX7_mixBy_1 : decode cX7_mixBy 1 = .ok (.iload_n 1, 1) := by decide +kernel
theorem dX7_mixBy_2 : decode cX7_mixBy 2 = .ok (.invokevirtual 179, 3) := by decide +kernel
theorem dX7_mixBy_5 : decode cX7_mixBy 5 = .ok (.iconst 0, 1) := by decide +kernel
theorem dX7_mixBy_6 : decode cX7_mixBy 6 = .ok (.istore_n 2, 1) := by decide +kernel
theorem dX7_mixBy_7 : decode cX7_mixBy 7 = .ok (.iload_n 2, 1) := by decide +kernel
theorem dX7_mixBy_8 : decode cX7_mixBy 8 = .ok (.iconst 4, 1) := by decide +kernel
theorem dX7_mixBy_9 : decode cX7_mixBy 9 = .ok (.if_icmp .ge 18, 3) := by decide +kernel
theorem dX7_mixBy_12 : decode cX7_mixBy 12 = .ok (.aload_n 0, 1) := by decide +kernel
theorem dX7_mixBy_13 : decode cX7_mixBy 13 = .ok (.aload_n 0, 1) := by decide +kernel
theorem dX7_mixBy_14 : decode cX7_mixBy 14 = .ok (.iload_n 2, 1) := by decide +kernel
theorem dX7_mixBy_15 : decode cX7_mixBy 15 = .ok (.invokevirtual 182, 3) := by decide +kernel
theorem dX7_mixBy_18 : decode cX7_mixBy 18 = .ok (.invokevirtual 202, 3) := by decide +kernel
theorem dX7_mixBy_21 : decode cX7_mixBy 21 = .ok (.iinc 2 1, 3) := by decide +kernel
theorem dX7_mixBy_24 : decode cX7_mixBy 24 = .ok (.goto (-17), 3) := by decide +kernel
theorem dX7_mixBy_27 : decode cX7_mixBy 27 = .ok (.iconst 0, 1) := by decide +kernel
theorem dX7_mixBy_28 : decode cX7_mixBy 28 = .ok (.istore_n 2, 1) := by decide +kernel
theorem dX7_mixBy_29 : decode cX7_mixBy 29 = .ok (.iload_n 2, 1) := by decide +kernel
theorem dX7_mixBy_30 : decode cX7_mixBy 30 = .ok (.aload_n 0, 1) := by decide +kernel
theorem dX7_mixBy_31 : decode cX7_mixBy 31 = .ok (.getfield 78, 3) := by decide +kernel
theorem dX7_mixBy_34 : decode cX7_mixBy 34 = .ok (.if_icmp .ge 62, 3) := by decide +kernel
theorem dX7_mixBy_37 : decode cX7_mixBy 37 = .ok (.aload_n 0, 1) := by decide +kernel
theorem dX7_mixBy_38 : decode cX7_mixBy 38 = .ok (.aload_n 0, 1) := by decide +kernel
theorem dX7_mixBy_39 : decode cX7_mixBy 39 = .ok (.iload_n 2, 1) := by decide +kernel
theorem dX7_mixBy_40 : decode cX7_mixBy 40 = .ok (.iconst 0, 1) := by decide +kernel
theorem dX7_mixBy_41 : decode cX7_mixBy 41 = .ok (.invokevirtual 185, 3) := by decide +kernel
theorem dX7_mixBy_44 : decode cX7_mixBy 44 = .ok (.invokevirtual 202, 3) := by decide +kernel
theorem dX7_mixBy_47 : decode cX7_mixBy 47 = .ok (.aload_n 0, 1) := by decide +kernel
theorem dX7_mixBy_48 : decode cX7_mixBy 48 = .ok (.aload_n 0, 1) := by decide +kernel
theorem dX7_mixBy_49 : decode cX7_mixBy 49 = .ok (.iload_n 2, 1) := by decide +kernel
theorem dX7_mixBy_50 : decode cX7_mixBy 50 = .ok (.iconst 1, 1) := by decide +kernel
theorem dX7_mixBy_51 : decode cX7_mixBy 51 = .ok (.invokevirtual 185, 3) := by decide +kernel
theorem dX7_mixBy_54 : decode cX7_mixBy 54 = .ok (.invokevirtual 202, 3) := by decide +kernel
theorem dX7_mixBy_57 : decode cX7_mixBy 57 = .ok (.aload_n 0, 1) := by decide +kernel
theorem dX7_mixBy_58 : decode cX7_mixBy 58 = .ok (.aload_n 0, 1) := by decide +kernel
theorem dX7_mixBy_59 : decode cX7_mixBy 59 = .ok (.iload_n 2, 1) := by decide +kernel
theorem dX7_mixBy_60 : decode cX7_mixBy 60 = .ok (.iload_n 1, 1) := by decide +kernel
theorem dX7_mixBy_61 : decode cX7_mixBy 61 = .ok (.iconst 0, 1) := by decide +kernel
theorem dX7_mixBy_62 : decode cX7_mixBy 62 = .ok (.invokevirtual 191, 3) := by decide +kernel
theorem dX7_mixBy_65 : decode cX7_mixBy 65 = .ok (.invokevirtual 202, 3) := by decide +kernel
theorem dX7_mixBy_68 : decode cX7_mixBy 68 = .ok (.aload_n 0, 1) := by decide +kernel
theorem dX7_mixBy_69 : decode cX7_mixBy 69 = .ok (.aload_n 0, 1) := by decide +kernel
theorem dX7_mixBy_70 : decode cX7_mixBy 70 = .ok (.iload_n 2, 1) := by decide +kernel
theorem dX7_mixBy_71 : decode cX7_mixBy 71 = .ok (.iload_n 1, 1) := by decide +kernel
theorem dX7_mixBy_72 : decode cX7_mixBy 72 = .ok (.iconst 1, 1) := by decide +kernel
theorem dX7_mixBy_73 : decode cX7_mixBy 73 = .ok (.invokevirtual 191, 3) := by decide +kernel
theorem dX7_mixBy_76 : decode cX7_mixBy 76 = .ok (.invokevirtual 202, 3) := by decide +kernel
theorem dX7_mixBy_79 : decode cX7_mixBy 79 = .ok (.aload_n 0, 1) := by decide +kernel
theorem dX7_mixBy_80 : decode cX7_mixBy 80 = .ok (.aload_n 0, 1) := by decide +kernel
theorem dX7_mixBy_81 : decode cX7_mixBy 81 = .ok (.iload_n 2, 1) := by decide +kernel
theorem dX7_mixBy_82 : decode cX7_mixBy 82 = .ok (.iload_n 1, 1) := by decide +kernel
theorem dX7_mixBy_83 : decode cX7_mixBy 83 = .ok (.invokevirtual 118, 3) := by decide +kernel
theorem dX7_mixBy_86 : decode cX7_mixBy 86 = .ok (.i2l, 1) := by decide +kernel
theorem dX7_mixBy_87 : decode cX7_mixBy 87 = .ok (.invokevirtual 202, 3) := by decide +kernel
theorem dX7_mixBy_90 : decode cX7_mixBy 90 = .ok (.iinc 2 1, 3) := by decide +kernel
theorem dX7_mixBy_93 : decode cX7_mixBy 93 = .ok (.goto (-64), 3) := by decide +kernel
theorem dX7_mixBy_96 : decode cX7_mixBy 96 = .ok (.iconst 0, 1) := by decide +kernel
theorem dX7_mixBy_97 : decode cX7_mixBy 97 = .ok (.istore_n 2, 1) := by decide +kernel
theorem dX7_mixBy_98 : decode cX7_mixBy 98 = .ok (.iload_n 2, 1) := by decide +kernel
theorem dX7_mixBy_99 : decode cX7_mixBy 99 = .ok (.aload_n 0, 1) := by decide +kernel
theorem dX7_mixBy_100 : decode cX7_mixBy 100 = .ok (.getfield 81, 3) := by decide +kernel
theorem dX7_mixBy_103 : decode cX7_mixBy 103 = .ok (.if_icmp .ge 43, 3) := by decide +kernel
theorem dX7_mixBy_106 : decode cX7_mixBy 106 = .ok (.aload_n 0, 1) := by decide +kernel
theorem dX7_mixBy_107 : decode cX7_mixBy 107 = .ok (.aload_n 0, 1) := by decide +kernel
theorem dX7_mixBy_108 : decode cX7_mixBy 108 = .ok (.iload_n 2, 1) := by decide +kernel
theorem dX7_mixBy_109 : decode cX7_mixBy 109 = .ok (.invokevirtual 188, 3) := by decide +kernel
theorem dX7_mixBy_112 : decode cX7_mixBy 112 = .ok (.aload_n 0, 1) := by decide +kernel
theorem dX7_mixBy_113 : decode cX7_mixBy 113 = .ok (.getfield 142, 3) := by decide +kernel
theorem dX7_mixBy_116 : decode cX7_mixBy 116 = .ok (.iconst 0, 1) := by decide +kernel
theorem dX7_mixBy_117 : decode cX7_mixBy 117 = .ok (.invokestatic 175, 3) := by decide +kernel
theorem dX7_mixBy_120 : decode cX7_mixBy 120 = .ok (.invokevirtual 202, 3) := by decide +kernel
theorem dX7_mixBy_123 : decode cX7_mixBy 123 = .ok (.aload_n 0, 1) := by decide +kernel
theorem dX7_mixBy_124 : decode cX7_mixBy 124 = .ok (.aload_n 0, 1) := by decide +kernel
theorem dX7_mixBy_125 : decode cX7_mixBy 125 = .ok (.iload_n 2, 1) := by decide +kernel
theorem dX7_mixBy_126 : decode cX7_mixBy 126 = .ok (.invokevirtual 188, 3) := by decide +kernel
theorem dX7_mixBy_129 : decode cX7_mixBy 129 = .ok (.aload_n 0, 1) := by decide +kernel
theorem dX7_mixBy_130 : decode cX7_mixBy 130 = .ok (.getfield 142, 3) := by decide +kernel
theorem dX7_mixBy_133 : decode cX7_mixBy 133 = .ok (.iconst 1, 1) := by decide +kernel
theorem dX7_mixBy_134 : decode cX7_mixBy 134 = .ok (.invokestatic 175, 3) := by decide +kernel
theorem dX7_mixBy_137 : decode cX7_mixBy 137 = .ok (.invokevirtual 202, 3) := by decide +kernel
theorem dX7_mixBy_140 : decode cX7_mixBy 140 = .ok (.iinc 2 1, 3) := by decide +kernel
theorem dX7_mixBy_143 : decode cX7_mixBy 143 = .ok (.goto (-45), 3) := by decide +kernel
theorem dX7_mixBy_146 : decode cX7_mixBy 146 = .ok (.return_, 1) := by decide +kernel
theorem dX7_digest_0 : decode cX7_digest 0 = .ok (.aload_n 0, 1) := by decide +kernel
theorem dX7_digest_1 : decode cX7_digest 1 = .ok (.ldc2_w 206, 3) := by decide +kernel
theorem dX7_digest_4 : decode cX7_digest 4 = .ok (.putfield 199, 3) := by decide +kernel
theorem dX7_digest_7 : decode cX7_digest 7 = .ok (.iconst 0, 1) := by decide +kernel
theorem dX7_digest_8 : decode cX7_digest 8 = .ok (.istore_n 1, 1) := by decide +kernel
theorem dX7_digest_9 : decode cX7_digest 9 = .ok (.iload_n 1, 1) := by decide +kernel
theorem dX7_digest_10 : decode cX7_digest 10 = .ok (.aload_n 0, 1) := by decide +kernel
theorem dX7_digest_11 : decode cX7_digest 11 = .ok (.getfield 78, 3) := by decide +kernel
theorem dX7_digest_14 : decode cX7_digest 14 = .ok (.if_icmp .ge 32, 3) := by decide +kernel
theorem dX7_digest_17 : decode cX7_digest 17 = .ok (.iconst 0, 1) := by decide +kernel
theorem dX7_digest_18 : decode cX7_digest 18 = .ok (.istore_n 2, 1) := by decide +kernel
theorem dX7_digest_19 : decode cX7_digest 19 = .ok (.iload_n 2, 1) := by decide +kernel
theorem dX7_digest_20 : decode cX7_digest 20 = .ok (.iconst 4, 1) := by decide +kernel
theorem dX7_digest_21 : decode cX7_digest 21 = .ok (.if_icmp .ge 19, 3) := by decide +kernel
theorem dX7_digest_24 : decode cX7_digest 24 = .ok (.aload_n 0, 1) := by decide +kernel
theorem dX7_digest_25 : decode cX7_digest 25 = .ok (.aload_n 0, 1) := by decide +kernel
theorem dX7_digest_26 : decode cX7_digest 26 = .ok (.iload_n 1, 1) := by decide +kernel
theorem dX7_digest_27 : decode cX7_digest 27 = .ok (.iload_n 2, 1) := by decide +kernel
theorem dX7_digest_28 : decode cX7_digest 28 = .ok (.invokevirtual 104, 3) := by decide +kernel
theorem dX7_digest_31 : decode cX7_digest 31 = .ok (.invokevirtual 202, 3) := by decide +kernel
theorem dX7_digest_34 : decode cX7_digest 34 = .ok (.iinc 2 1, 3) := by decide +kernel
theorem dX7_digest_37 : decode cX7_digest 37 = .ok (.goto (-18), 3) := by decide +kernel
theorem dX7_digest_40 : decode cX7_digest 40 = .ok (.iinc 1 1, 3) := by decide +kernel
theorem dX7_digest_43 : decode cX7_digest 43 = .ok (.goto (-34), 3) := by decide +kernel
theorem dX7_digest_46 : decode cX7_digest 46 = .ok (.iconst 0, 1) := by decide +kernel
theorem dX7_digest_47 : decode cX7_digest 47 = .ok (.istore_n 1, 1) := by decide +kernel
theorem dX7_digest_48 : decode cX7_digest 48 = .ok (.iload_n 1, 1) := by decide +kernel
theorem dX7_digest_49 : decode cX7_digest 49 = .ok (.aload_n 0, 1) := by decide +kernel
theorem dX7_digest_50 : decode cX7_digest 50 = .ok (.getfield 81, 3) := by decide +kernel
theorem dX7_digest_53 : decode cX7_digest 53 = .ok (.if_icmp .ge 31, 3) := by decide +kernel
theorem dX7_digest_56 : decode cX7_digest 56 = .ok (.aload_n 0, 1) := by decide +kernel
theorem dX7_digest_57 : decode cX7_digest 57 = .ok (.aload_n 0, 1) := by decide +kernel
theorem dX7_digest_58 : decode cX7_digest 58 = .ok (.getfield 16, 3) := by decide +kernel
theorem dX7_digest_61 : decode cX7_digest 61 = .ok (.iload_n 1, 1) := by decide +kernel
theorem dX7_digest_62 : decode cX7_digest 62 = .ok (.iaload, 1) := by decide +kernel
theorem dX7_digest_63 : decode cX7_digest 63 = .ok (.i2l, 1) := by decide +kernel
theorem dX7_digest_64 : decode cX7_digest 64 = .ok (.invokevirtual 202, 3) := by decide +kernel
theorem dX7_digest_67 : decode cX7_digest 67 = .ok (.aload_n 0, 1) := by decide +kernel
theorem dX7_digest_68 : decode cX7_digest 68 = .ok (.aload_n 0, 1) := by decide +kernel
theorem dX7_digest_69 : decode cX7_digest 69 = .ok (.getfield 19, 3) := by decide +kernel
theorem dX7_digest_72 : decode cX7_digest 72 = .ok (.iload_n 1, 1) := by decide +kernel
theorem dX7_digest_73 : decode cX7_digest 73 = .ok (.iaload, 1) := by decide +kernel
theorem dX7_digest_74 : decode cX7_digest 74 = .ok (.i2l, 1) := by decide +kernel
theorem dX7_digest_75 : decode cX7_digest 75 = .ok (.invokevirtual 202, 3) := by decide +kernel
theorem dX7_digest_78 : decode cX7_digest 78 = .ok (.iinc 1 1, 3) := by decide +kernel
theorem dX7_digest_81 : decode cX7_digest 81 = .ok (.goto (-33), 3) := by decide +kernel
theorem dX7_digest_84 : decode cX7_digest 84 = .ok (.aload_n 0, 1) := by decide +kernel
theorem dX7_digest_85 : decode cX7_digest 85 = .ok (.getfield 78, 3) := by decide +kernel
theorem dX7_digest_88 : decode cX7_digest 88 = .ok (.ifCond .le 15, 3) := by decide +kernel
theorem dX7_digest_91 : decode cX7_digest 91 = .ok (.aload_n 0, 1) := by decide +kernel
theorem dX7_digest_92 : decode cX7_digest 92 = .ok (.iconst 1, 1) := by decide +kernel
theorem dX7_digest_93 : decode cX7_digest 93 = .ok (.aload_n 0, 1) := by decide +kernel
theorem dX7_digest_94 : decode cX7_digest 94 = .ok (.getfield 81, 3) := by decide +kernel
theorem dX7_digest_97 : decode cX7_digest 97 = .ok (.ishl, 1) := by decide +kernel
theorem dX7_digest_98 : decode cX7_digest 98 = .ok (.iconst 1, 1) := by decide +kernel
theorem dX7_digest_99 : decode cX7_digest 99 = .ok (.isub, 1) := by decide +kernel
theorem dX7_digest_100 : decode cX7_digest 100 = .ok (.invokevirtual 208, 3) := by decide +kernel
theorem dX7_digest_103 : decode cX7_digest 103 = .ok (.iconst 0, 1) := by decide +kernel
theorem dX7_digest_104 : decode cX7_digest 104 = .ok (.istore_n 1, 1) := by decide +kernel
theorem dX7_digest_105 : decode cX7_digest 105 = .ok (.iload_n 1, 1) := by decide +kernel
theorem dX7_digest_106 : decode cX7_digest 106 = .ok (.aload_n 0, 1) := by decide +kernel
theorem dX7_digest_107 : decode cX7_digest 107 = .ok (.getfield 81, 3) := by decide +kernel
theorem dX7_digest_110 : decode cX7_digest 110 = .ok (.if_icmp .ge 35, 3) := by decide +kernel
theorem dX7_digest_113 : decode cX7_digest 113 = .ok (.aload_n 0, 1) := by decide +kernel
theorem dX7_digest_114 : decode cX7_digest 114 = .ok (.getfield 81, 3) := by decide +kernel
theorem dX7_digest_117 : decode cX7_digest 117 = .ok (.iconst 1, 1) := by decide +kernel
theorem dX7_digest_118 : decode cX7_digest 118 = .ok (.if_icmp .le 27, 3) := by decide +kernel
theorem dX7_digest_121 : decode cX7_digest 121 = .ok (.aload_n 0, 1) := by decide +kernel
theorem dX7_digest_122 : decode cX7_digest 122 = .ok (.iconst 1, 1) := by decide +kernel
theorem dX7_digest_123 : decode cX7_digest 123 = .ok (.aload_n 0, 1) := by decide +kernel
theorem dX7_digest_124 : decode cX7_digest 124 = .ok (.getfield 81, 3) := by decide +kernel
theorem dX7_digest_127 : decode cX7_digest 127 = .ok (.ishl, 1) := by decide +kernel
theorem dX7_digest_128 : decode cX7_digest 128 = .ok (.iconst 1, 1) := by decide +kernel
theorem dX7_digest_129 : decode cX7_digest 129 = .ok (.isub, 1) := by decide +kernel
theorem dX7_digest_130 : decode cX7_digest 130 = .ok (.iconst 1, 1) := by decide +kernel
theorem dX7_digest_131 : decode cX7_digest 131 = .ok (.iload_n 1, 1) := by decide +kernel
theorem dX7_digest_132 : decode cX7_digest 132 = .ok (.ishl, 1) := by decide +kernel
theorem dX7_digest_133 : decode cX7_digest 133 = .ok (.iconst (-1), 1) := by decide +kernel
theorem dX7_digest_134 : decode cX7_digest 134 = .ok (.ixor, 1) := by decide +kernel
theorem dX7_digest_135 : decode cX7_digest 135 = .ok (.iand, 1) := by decide +kernel
theorem dX7_digest_136 : decode cX7_digest 136 = .ok (.invokevirtual 208, 3) := by decide +kernel
theorem dX7_digest_139 : decode cX7_digest 139 = .ok (.iinc 1 1, 3) := by decide +kernel
theorem dX7_digest_142 : decode cX7_digest 142 = .ok (.goto (-37), 3) := by decide +kernel
theorem dX7_digest_145 : decode cX7_digest 145 = .ok (.iconst 0, 1) := by decide +kernel
theorem dX7_digest_146 : decode cX7_digest 146 = .ok (.istore_n 1, 1) := by decide +kernel
theorem dX7_digest_147 : decode cX7_digest 147 = .ok (.iload_n 1, 1) := by decide +kernel
theorem dX7_digest_148 : decode cX7_digest 148 = .ok (.aload_n 0, 1) := by decide +kernel
theorem dX7_digest_149 : decode cX7_digest 149 = .ok (.getfield 44, 3) := by decide +kernel
theorem dX7_digest_152 : decode cX7_digest 152 = .ok (.if_icmp .ge 20, 3) := by decide +kernel
theorem dX7_digest_155 : decode cX7_digest 155 = .ok (.aload_n 0, 1) := by decide +kernel
theorem dX7_digest_156 : decode cX7_digest 156 = .ok (.aload_n 0, 1) := by decide +kernel
theorem dX7_digest_157 : decode cX7_digest 157 = .ok (.getfield 7, 3) := by decide +kernel
theorem dX7_digest_160 : decode cX7_digest 160 = .ok (.iload_n 1, 1) := by decide +kernel
theorem dX7_digest_161 : decode cX7_digest 161 = .ok (.iaload, 1) := by decide +kernel
theorem dX7_digest_162 : decode cX7_digest 162 = .ok (.i2l, 1) := by decide +kernel
theorem dX7_digest_163 : decode cX7_digest 163 = .ok (.invokevirtual 202, 3) := by decide +kernel
theorem dX7_digest_166 : decode cX7_digest 166 = .ok (.iinc 1 1, 3) := by decide +kernel
theorem dX7_digest_169 : decode cX7_digest 169 = .ok (.goto (-22), 3) := by decide +kernel
theorem dX7_digest_172 : decode cX7_digest 172 = .ok (.iconst 0, 1) := by decide +kernel
theorem dX7_digest_173 : decode cX7_digest 173 = .ok (.istore_n 1, 1) := by decide +kernel
theorem dX7_digest_174 : decode cX7_digest 174 = .ok (.iload_n 1, 1) := by decide +kernel
theorem dX7_digest_175 : decode cX7_digest 175 = .ok (.iconst 5, 1) := by decide +kernel
theorem dX7_digest_176 : decode cX7_digest 176 = .ok (.if_icmp .ge 18, 3) := by decide +kernel
theorem dX7_digest_179 : decode cX7_digest 179 = .ok (.aload_n 0, 1) := by decide +kernel
theorem dX7_digest_180 : decode cX7_digest 180 = .ok (.aload_n 0, 1) := by decide +kernel
theorem dX7_digest_181 : decode cX7_digest 181 = .ok (.iload_n 1, 1) := by decide +kernel
theorem dX7_digest_182 : decode cX7_digest 182 = .ok (.invokevirtual 194, 3) := by decide +kernel
theorem dX7_digest_185 : decode cX7_digest 185 = .ok (.invokevirtual 202, 3) := by decide +kernel
theorem dX7_digest_188 : decode cX7_digest 188 = .ok (.iinc 1 1, 3) := by decide +kernel
theorem dX7_digest_191 : decode cX7_digest 191 = .ok (.goto (-17), 3) := by decide +kernel
theorem dX7_digest_194 : decode cX7_digest 194 = .ok (.aload_n 0, 1) := by decide +kernel
theorem dX7_digest_195 : decode cX7_digest 195 = .ok (.getfield 199, 3) := by decide +kernel
theorem dX7_digest_198 : decode cX7_digest 198 = .ok (.lreturn, 1) := by decide +kernel
end
section
theorem dL_law_0 : decode cL_law 0 = .ok (.new 7, 3) := by decide +kernel
theorem dL_law_3 : decode cL_law 3 = .ok (.dup, 1) := by decide +kernel
theorem dL_law_4 : decode cL_law 4 = .ok (.invokespecial 9, 3) := by decide +kernel
theorem dL_law_7 : decode cL_law 7 = .ok (.astore_n 1, 1) := by decide +kernel
theorem dL_law_8 : decode cL_law 8 = .ok (.new 10, 3) := by decide +kernel
theorem dL_law_11 : decode cL_law 11 = .ok (.dup, 1) := by decide +kernel
theorem dL_law_12 : decode cL_law 12 = .ok (.invokespecial 12, 3) := by decide +kernel
theorem dL_law_15 : decode cL_law 15 = .ok (.astore_n 2, 1) := by decide +kernel
theorem dL_law_16 : decode cL_law 16 = .ok (.iconst 0, 1) := by decide +kernel
theorem dL_law_17 : decode cL_law 17 = .ok (.istore_n 3, 1) := by decide +kernel
theorem dL_law_18 : decode cL_law 18 = .ok (.iload_n 3, 1) := by decide +kernel
theorem dL_law_19 : decode cL_law 19 = .ok (.aload_n 0, 1) := by decide +kernel
theorem dL_law_20 : decode cL_law 20 = .ok (.arraylength, 1) := by decide +kernel
theorem dL_law_21 : decode cL_law 21 = .ok (.iconst 4, 1) := by decide +kernel
theorem dL_law_22 : decode cL_law 22 = .ok (.isub, 1) := by decide +kernel
theorem dL_law_23 : decode cL_law 23 = .ok (.if_icmp .gt 627, 3) := by decide +kernel
theorem dL_law_26 : decode cL_law 26 = .ok (.aload_n 0, 1) := by decide +kernel
theorem dL_law_27 : decode cL_law 27 = .ok (.iload_n 3, 1) := by decide +kernel
theorem dL_law_28 : decode cL_law 28 = .ok (.iaload, 1) := by decide +kernel
theorem dL_law_29 : decode cL_law 29 = .ok (.bipush 31, 2) := by decide +kernel
theorem dL_law_31 : decode cL_law 31 = .ok (.iand, 1) := by decide +kernel
theorem dL_law_32 : decode cL_law 32 = .ok (.tableswitch 612 0 16 #[84, 108, 122, 136, 150, 194, 238, 262, 296, 330, 364, 398, 442, 486, 530, 574, 598], 84) := by decide +kernel
theorem dL_law_116 : decode cL_law 116 = .ok (.aload_n 1, 1) := by decide +kernel
theorem dL_law_117 : decode cL_law 117 = .ok (.aload_n 0, 1) := by decide +kernel
theorem dL_law_118 : decode cL_law 118 = .ok (.iload_n 3, 1) := by decide +kernel
theorem dL_law_119 : decode cL_law 119 = .ok (.iconst 1, 1) := by decide +kernel
theorem dL_law_120 : decode cL_law 120 = .ok (.iadd, 1) := by decide +kernel
theorem dL_law_121 : decode cL_law 121 = .ok (.iaload, 1) := by decide +kernel
theorem dL_law_122 : decode cL_law 122 = .ok (.invokevirtual 13, 3) := by decide +kernel
theorem dL_law_125 : decode cL_law 125 = .ok (.aload_n 2, 1) := by decide +kernel
theorem dL_law_126 : decode cL_law 126 = .ok (.aload_n 0, 1) := by decide +kernel
theorem dL_law_127 : decode cL_law 127 = .ok (.iload_n 3, 1) := by decide +kernel
theorem dL_law_128 : decode cL_law 128 = .ok (.iconst 1, 1) := by decide +kernel
theorem dL_law_129 : decode cL_law 129 = .ok (.iadd, 1) := by decide +kernel
theorem dL_law_130 : decode cL_law 130 = .ok (.iaload, 1) := by decide +kernel
theorem dL_law_131 : decode cL_law 131 = .ok (.invokevirtual 17, 3) := by decide +kernel
theorem dL_law_134 : decode cL_law 134 = .ok (.lcmp, 1) := by decide +kernel
theorem dL_law_135 : decode cL_law 135 = .ok (.ifCond .eq 509, 3) := by decide +kernel
theorem dL_law_138 : decode cL_law 138 = .ok (.iconst 0, 1) := by decide +kernel
theorem dL_law_139 : decode cL_law 139 = .ok (.ireturn, 1) := by decide +kernel
theorem dL_law_140 : decode cL_law 140 = .ok (.aload_n 1, 1) := by decide +kernel
theorem dL_law_141 : decode cL_law 141 = .ok (.invokevirtual 18, 3) := by decide +kernel
theorem dL_law_144 : decode cL_law 144 = .ok (.aload_n 2, 1) := by decide +kernel
theorem dL_law_145 : decode cL_law 145 = .ok (.invokevirtual 22, 3) := by decide +kernel
theorem dL_law_148 : decode cL_law 148 = .ok (.lcmp, 1) := by decide +kernel
theorem dL_law_149 : decode cL_law 149 = .ok (.ifCond .eq 495, 3) := by decide +kernel
theorem dL_law_152 : decode cL_law 152 = .ok (.iconst 0, 1) := by decide +kernel
theorem dL_law_153 : decode cL_law 153 = .ok (.ireturn, 1) := by decide +kernel
theorem dL_law_154 : decode cL_law 154 = .ok (.aload_n 1, 1) := by decide +kernel
theorem dL_law_155 : decode cL_law 155 = .ok (.invokevirtual 23, 3) := by decide +kernel
theorem dL_law_158 : decode cL_law 158 = .ok (.aload_n 2, 1) := by decide +kernel
theorem dL_law_159 : decode cL_law 159 = .ok (.invokevirtual 26, 3) := by decide +kernel
theorem dL_law_162 : decode cL_law 162 = .ok (.lcmp, 1) := by decide +kernel
theorem dL_law_163 : decode cL_law 163 = .ok (.ifCond .eq 481, 3) := by decide +kernel
theorem dL_law_166 : decode cL_law 166 = .ok (.iconst 0, 1) := by decide +kernel
theorem dL_law_167 : decode cL_law 167 = .ok (.ireturn, 1) := by decide +kernel
theorem dL_law_168 : decode cL_law 168 = .ok (.aload_n 1, 1) := by decide +kernel
theorem dL_law_169 : decode cL_law 169 = .ok (.invokevirtual 27, 3) := by decide +kernel
theorem dL_law_172 : decode cL_law 172 = .ok (.aload_n 2, 1) := by decide +kernel
theorem dL_law_173 : decode cL_law 173 = .ok (.invokevirtual 30, 3) := by decide +kernel
theorem dL_law_176 : decode cL_law 176 = .ok (.lcmp, 1) := by decide +kernel
theorem dL_law_177 : decode cL_law 177 = .ok (.ifCond .eq 467, 3) := by decide +kernel
theorem dL_law_180 : decode cL_law 180 = .ok (.iconst 0, 1) := by decide +kernel
theorem dL_law_181 : decode cL_law 181 = .ok (.ireturn, 1) := by decide +kernel
theorem dL_law_182 : decode cL_law 182 = .ok (.aload_n 1, 1) := by decide +kernel
theorem dL_law_183 : decode cL_law 183 = .ok (.aload_n 0, 1) := by decide +kernel
theorem dL_law_184 : decode cL_law 184 = .ok (.iload_n 3, 1) := by decide +kernel
theorem dL_law_185 : decode cL_law 185 = .ok (.iconst 1, 1) := by decide +kernel
theorem dL_law_186 : decode cL_law 186 = .ok (.iadd, 1) := by decide +kernel
theorem dL_law_187 : decode cL_law 187 = .ok (.iaload, 1) := by decide +kernel
theorem dL_law_188 : decode cL_law 188 = .ok (.aload_n 0, 1) := by decide +kernel
theorem dL_law_189 : decode cL_law 189 = .ok (.iload_n 3, 1) := by decide +kernel
theorem dL_law_190 : decode cL_law 190 = .ok (.iconst 2, 1) := by decide +kernel
theorem dL_law_191 : decode cL_law 191 = .ok (.iadd, 1) := by decide +kernel
theorem dL_law_192 : decode cL_law 192 = .ok (.iaload, 1) := by decide +kernel
theorem dL_law_193 : decode cL_law 193 = .ok (.aload_n 0, 1) := by decide +kernel
theorem dL_law_194 : decode cL_law 194 = .ok (.iload_n 3, 1) := by decide +kernel
theorem dL_law_195 : decode cL_law 195 = .ok (.iconst 3, 1) := by decide +kernel
theorem dL_law_196 : decode cL_law 196 = .ok (.iadd, 1) := by decide +kernel
theorem dL_law_197 : decode cL_law 197 = .ok (.iaload, 1) := by decide +kernel
theorem dL_law_198 : decode cL_law 198 = .ok (.invokevirtual 31, 3) := by decide +kernel
theorem dL_law_201 : decode cL_law 201 = .ok (.aload_n 2, 1) := by decide +kernel
theorem dL_law_202 : decode cL_law 202 = .ok (.aload_n 0, 1) := by decide +kernel
theorem dL_law_203 : decode cL_law 203 = .ok (.iload_n 3, 1) := by decide +kernel
theorem dL_law_204 : decode cL_law 204 = .ok (.iconst 1, 1) := by decide +kernel
theorem dL_law_205 : decode cL_law 205 = .ok (.iadd, 1) := by decide +kernel
theorem dL_law_206 : decode cL_law 206 = .ok (.iaload, 1) := by decide +kernel
theorem dL_law_207 : decode cL_law 207 = .ok (.aload_n 0, 1) := by decide +kernel
theorem dL_law_208 : decode cL_law 208 = .ok (.iload_n 3, 1) := by decide +kernel
theorem dL_law_209 : decode cL_law 209 = .ok (.iconst 2, 1) := by decide +kernel
theorem dL_law_210 : decode cL_law 210 = .ok (.iadd, 1) := by decide +kernel
theorem dL_law_211 : decode cL_law 211 = .ok (.iaload, 1) := by decide +kernel
theorem dL_law_212 : decode cL_law 212 = .ok (.aload_n 0, 1) := by decide +kernel
theorem dL_law_213 : decode cL_law 213 = .ok (.iload_n 3, 1) := by decide +kernel
theorem dL_law_214 : decode cL_law 214 = .ok (.iconst 3, 1) := by decide +kernel
theorem dL_law_215 : decode cL_law 215 = .ok (.iadd, 1) := by decide +kernel
theorem dL_law_216 : decode cL_law 216 = .ok (.iaload, 1) := by decide +kernel
theorem dL_law_217 : decode cL_law 217 = .ok (.invokevirtual 35, 3) := by decide +kernel
theorem dL_law_220 : decode cL_law 220 = .ok (.lcmp, 1) := by decide +kernel
theorem dL_law_221 : decode cL_law 221 = .ok (.ifCond .eq 423, 3) := by decide +kernel
theorem dL_law_224 : decode cL_law 224 = .ok (.iconst 0, 1) := by decide +kernel
theorem dL_law_225 : decode cL_law 225 = .ok (.ireturn, 1) := by decide +kernel
theorem dL_law_226 : decode cL_law 226 = .ok (.aload_n 1, 1) := by decide +kernel
theorem dL_law_227 : decode cL_law 227 = .ok (.aload_n 0, 1) := by decide +kernel
theorem dL_law_228 : decode cL_law 228 = .ok (.iload_n 3, 1) := by decide +kernel
theorem dL_law_229 : decode cL_law 229 = .ok (.iconst 1, 1) := by decide +kernel
theorem dL_law_230 : decode cL_law 230 = .ok (.iadd, 1) := by decide +kernel
theorem dL_law_231 : decode cL_law 231 = .ok (.iaload, 1) := by decide +kernel
theorem dL_law_232 : decode cL_law 232 = .ok (.aload_n 0, 1) := by decide +kernel
theorem dL_law_233 : decode cL_law 233 = .ok (.iload_n 3, 1) := by decide +kernel
theorem dL_law_234 : decode cL_law 234 = .ok (.iconst 2, 1) := by decide +kernel
theorem dL_law_235 : decode cL_law 235 = .ok (.iadd, 1) := by decide +kernel
theorem dL_law_236 : decode cL_law 236 = .ok (.iaload, 1) := by decide +kernel
theorem dL_law_237 : decode cL_law 237 = .ok (.aload_n 0, 1) := by decide +kernel
theorem dL_law_238 : decode cL_law 238 = .ok (.iload_n 3, 1) := by decide +kernel
theorem dL_law_239 : decode cL_law 239 = .ok (.iconst 3, 1) := by decide +kernel
theorem dL_law_240 : decode cL_law 240 = .ok (.iadd, 1) := by decide +kernel
theorem dL_law_241 : decode cL_law 241 = .ok (.iaload, 1) := by decide +kernel
theorem dL_law_242 : decode cL_law 242 = .ok (.invokevirtual 36, 3) := by decide +kernel
theorem dL_law_245 : decode cL_law 245 = .ok (.aload_n 2, 1) := by decide +kernel
theorem dL_law_246 : decode cL_law 246 = .ok (.aload_n 0, 1) := by decide +kernel
theorem dL_law_247 : decode cL_law 247 = .ok (.iload_n 3, 1) := by decide +kernel
theorem dL_law_248 : decode cL_law 248 = .ok (.iconst 1, 1) := by decide +kernel
theorem dL_law_249 : decode cL_law 249 = .ok (.iadd, 1) := by decide +kernel
theorem dL_law_250 : decode cL_law 250 = .ok (.iaload, 1) := by decide +kernel
theorem dL_law_251 : decode cL_law 251 = .ok (.aload_n 0, 1) := by decide +kernel
theorem dL_law_252 : decode cL_law 252 = .ok (.iload_n 3, 1) := by decide +kernel
theorem dL_law_253 : decode cL_law 253 = .ok (.iconst 2, 1) := by decide +kernel
theorem dL_law_254 : decode cL_law 254 = .ok (.iadd, 1) := by decide +kernel
theorem dL_law_255 : decode cL_law 255 = .ok (.iaload, 1) := by decide +kernel
theorem dL_law_256 : decode cL_law 256 = .ok (.aload_n 0, 1) := by decide +kernel
theorem dL_law_257 : decode cL_law 257 = .ok (.iload_n 3, 1) := by decide +kernel
theorem dL_law_258 : decode cL_law 258 = .ok (.iconst 3, 1) := by decide +kernel
theorem dL_law_259 : decode cL_law 259 = .ok (.iadd, 1) := by decide +kernel
theorem dL_law_260 : decode cL_law 260 = .ok (.iaload, 1) := by decide +kernel
theorem dL_law_261 : decode cL_law 261 = .ok (.invokevirtual 39, 3) := by decide +kernel
theorem dL_law_264 : decode cL_law 264 = .ok (.lcmp, 1) := by decide +kernel
theorem dL_law_265 : decode cL_law 265 = .ok (.ifCond .eq 379, 3) := by decide +kernel
theorem dL_law_268 : decode cL_law 268 = .ok (.iconst 0, 1) := by decide +kernel
theorem dL_law_269 : decode cL_law 269 = .ok (.ireturn, 1) := by decide +kernel
theorem dL_law_270 : decode cL_law 270 = .ok (.aload_n 1, 1) := by decide +kernel
theorem dL_law_271 : decode cL_law 271 = .ok (.aload_n 0, 1) := by decide +kernel
theorem dL_law_272 : decode cL_law 272 = .ok (.iload_n 3, 1) := by decide +kernel
theorem dL_law_273 : decode cL_law 273 = .ok (.iconst 1, 1) := by decide +kernel
theorem dL_law_274 : decode cL_law 274 = .ok (.iadd, 1) := by decide +kernel
theorem dL_law_275 : decode cL_law 275 = .ok (.iaload, 1) := by decide +kernel
theorem dL_law_276 : decode cL_law 276 = .ok (.invokevirtual 40, 3) := by decide +kernel
theorem dL_law_279 : decode cL_law 279 = .ok (.aload_n 2, 1) := by decide +kernel
theorem dL_law_280 : decode cL_law 280 = .ok (.aload_n 0, 1) := by decide +kernel
theorem dL_law_281 : decode cL_law 281 = .ok (.iload_n 3, 1) := by decide +kernel
theorem dL_law_282 : decode cL_law 282 = .ok (.iconst 1, 1) := by decide +kernel
theorem dL_law_283 : decode cL_law 283 = .ok (.iadd, 1) := by decide +kernel
theorem dL_law_284 : decode cL_law 284 = .ok (.iaload, 1) := by decide +kernel
theorem dL_law_285 : decode cL_law 285 = .ok (.invokevirtual 43, 3) := by decide +kernel
theorem dL_law_288 : decode cL_law 288 = .ok (.lcmp, 1) := by decide +kernel
theorem dL_law_289 : decode cL_law 289 = .ok (.ifCond .eq 355, 3) := by decide +kernel
theorem dL_law_292 : decode cL_law 292 = .ok (.iconst 0, 1) := by decide +kernel
theorem dL_law_293 : decode cL_law 293 = .ok (.ireturn, 1) := by decide +kernel
theorem dL_law_294 : decode cL_law 294 = .ok (.aload_n 1, 1) := by decide +kernel
theorem dL_law_295 : decode cL_law 295 = .ok (.aload_n 0, 1) := by decide +kernel
theorem dL_law_296 : decode cL_law 296 = .ok (.iload_n 3, 1) := by decide +kernel
theorem dL_law_297 : decode cL_law 297 = .ok (.iconst 1, 1) := by decide +kernel
theorem dL_law_298 : decode cL_law 298 = .ok (.iadd, 1) := by decide +kernel
theorem dL_law_299 : decode cL_law 299 = .ok (.iaload, 1) := by decide +kernel
theorem dL_law_300 : decode cL_law 300 = .ok (.aload_n 0, 1) := by decide +kernel
theorem dL_law_301 : decode cL_law 301 = .ok (.iload_n 3, 1) := by decide +kernel
theorem dL_law_302 : decode cL_law 302 = .ok (.iconst 2, 1) := by decide +kernel
theorem dL_law_303 : decode cL_law 303 = .ok (.iadd, 1) := by decide +kernel
theorem dL_law_304 : decode cL_law 304 = .ok (.iaload, 1) := by decide +kernel
theorem dL_law_305 : decode cL_law 305 = .ok (.invokevirtual 44, 3) := by decide +kernel
theorem dL_law_308 : decode cL_law 308 = .ok (.aload_n 2, 1) := by decide +kernel
theorem dL_law_309 : decode cL_law 309 = .ok (.aload_n 0, 1) := by decide +kernel
theorem dL_law_310 : decode cL_law 310 = .ok (.iload_n 3, 1) := by decide +kernel
theorem dL_law_311 : decode cL_law 311 = .ok (.iconst 1, 1) := by decide +kernel
theorem dL_law_312 : decode cL_law 312 = .ok (.iadd, 1) := by decide +kernel
theorem dL_law_313 : decode cL_law 313 = .ok (.iaload, 1) := by decide +kernel
theorem dL_law_314 : decode cL_law 314 = .ok (.aload_n 0, 1) := by decide +kernel
theorem dL_law_315 : decode cL_law 315 = .ok (.iload_n 3, 1) := by decide +kernel
theorem dL_law_316 : decode cL_law 316 = .ok (.iconst 2, 1) := by decide +kernel
theorem dL_law_317 : decode cL_law 317 = .ok (.iadd, 1) := by decide +kernel
theorem dL_law_318 : decode cL_law 318 = .ok (.iaload, 1) := by decide +kernel
theorem dL_law_319 : decode cL_law 319 = .ok (.invokevirtual 48, 3) := by decide +kernel
theorem dL_law_322 : decode cL_law 322 = .ok (.lcmp, 1) := by decide +kernel
theorem dL_law_323 : decode cL_law 323 = .ok (.ifCond .eq 321, 3) := by decide +kernel
theorem dL_law_326 : decode cL_law 326 = .ok (.iconst 0, 1) := by decide +kernel
theorem dL_law_327 : decode cL_law 327 = .ok (.ireturn, 1) := by decide +kernel
theorem dL_law_328 : decode cL_law 328 = .ok (.aload_n 1, 1) := by decide +kernel
theorem dL_law_329 : decode cL_law 329 = .ok (.aload_n 0, 1) := by decide +kernel
theorem dL_law_330 : decode cL_law 330 = .ok (.iload_n 3, 1) := by decide +kernel
theorem dL_law_331 : decode cL_law 331 = .ok (.iconst 1, 1) := by decide +kernel
theorem dL_law_332 : decode cL_law 332 = .ok (.iadd, 1) := by decide +kernel
theorem dL_law_333 : decode cL_law 333 = .ok (.iaload, 1) := by decide +kernel
theorem dL_law_334 : decode cL_law 334 = .ok (.aload_n 0, 1) := by decide +kernel
theorem dL_law_335 : decode cL_law 335 = .ok (.iload_n 3, 1) := by decide +kernel
theorem dL_law_336 : decode cL_law 336 = .ok (.iconst 2, 1) := by decide +kernel
theorem dL_law_337 : decode cL_law 337 = .ok (.iadd, 1) := by decide +kernel
theorem dL_law_338 : decode cL_law 338 = .ok (.iaload, 1) := by decide +kernel
theorem dL_law_339 : decode cL_law 339 = .ok (.invokevirtual 49, 3) := by decide +kernel
theorem dL_law_342 : decode cL_law 342 = .ok (.aload_n 2, 1) := by decide +kernel
theorem dL_law_343 : decode cL_law 343 = .ok (.aload_n 0, 1) := by decide +kernel
theorem dL_law_344 : decode cL_law 344 = .ok (.iload_n 3, 1) := by decide +kernel
theorem dL_law_345 : decode cL_law 345 = .ok (.iconst 1, 1) := by decide +kernel
theorem dL_law_346 : decode cL_law 346 = .ok (.iadd, 1) := by decide +kernel
theorem dL_law_347 : decode cL_law 347 = .ok (.iaload, 1) := by decide +kernel
theorem dL_law_348 : decode cL_law 348 = .ok (.aload_n 0, 1) := by decide +kernel
theorem dL_law_349 : decode cL_law 349 = .ok (.iload_n 3, 1) := by decide +kernel
theorem dL_law_350 : decode cL_law 350 = .ok (.iconst 2, 1) := by decide +kernel
theorem dL_law_351 : decode cL_law 351 = .ok (.iadd, 1) := by decide +kernel
theorem dL_law_352 : decode cL_law 352 = .ok (.iaload, 1) := by decide +kernel
theorem dL_law_353 : decode cL_law 353 = .ok (.invokevirtual 52, 3) := by decide +kernel
theorem dL_law_356 : decode cL_law 356 = .ok (.lcmp, 1) := by decide +kernel
theorem dL_law_357 : decode cL_law 357 = .ok (.ifCond .eq 287, 3) := by decide +kernel
theorem dL_law_360 : decode cL_law 360 = .ok (.iconst 0, 1) := by decide +kernel
theorem dL_law_361 : decode cL_law 361 = .ok (.ireturn, 1) := by decide +kernel
theorem dL_law_362 : decode cL_law 362 = .ok (.aload_n 1, 1) := by decide +kernel
theorem dL_law_363 : decode cL_law 363 = .ok (.aload_n 0, 1) := by decide +kernel
theorem dL_law_364 : decode cL_law 364 = .ok (.iload_n 3, 1) := by decide +kernel
theorem dL_law_365 : decode cL_law 365 = .ok (.iconst 1, 1) := by decide +kernel
theorem dL_law_366 : decode cL_law 366 = .ok (.iadd, 1) := by decide +kernel
theorem dL_law_367 : decode cL_law 367 = .ok (.iaload, 1) := by decide +kernel
theorem dL_law_368 : decode cL_law 368 = .ok (.aload_n 0, 1) := by decide +kernel
theorem dL_law_369 : decode cL_law 369 = .ok (.iload_n 3, 1) := by decide +kernel
theorem dL_law_370 : decode cL_law 370 = .ok (.iconst 2, 1) := by decide +kernel
theorem dL_law_371 : decode cL_law 371 = .ok (.iadd, 1) := by decide +kernel
theorem dL_law_372 : decode cL_law 372 = .ok (.iaload, 1) := by decide +kernel
theorem dL_law_373 : decode cL_law 373 = .ok (.invokevirtual 53, 3) := by decide +kernel
theorem dL_law_376 : decode cL_law 376 = .ok (.aload_n 2, 1) := by decide +kernel
theorem dL_law_377 : decode cL_law 377 = .ok (.aload_n 0, 1) := by decide +kernel
theorem dL_law_378 : decode cL_law 378 = .ok (.iload_n 3, 1) := by decide +kernel
theorem dL_law_379 : decode cL_law 379 = .ok (.iconst 1, 1) := by decide +kernel
theorem dL_law_380 : decode cL_law 380 = .ok (.iadd, 1) := by decide +kernel
theorem dL_law_381 : decode cL_law 381 = .ok (.iaload, 1) := by decide +kernel
theorem dL_law_382 : decode cL_law 382 = .ok (.aload_n 0, 1) := by decide +kernel
theorem dL_law_383 : decode cL_law 383 = .ok (.iload_n 3, 1) := by decide +kernel
theorem dL_law_384 : decode cL_law 384 = .ok (.iconst 2, 1) := by decide +kernel
theorem dL_law_385 : decode cL_law 385 = .ok (.iadd, 1) := by decide +kernel
theorem dL_law_386 : decode cL_law 386 = .ok (.iaload, 1) := by decide +kernel
theorem dL_law_387 : decode cL_law 387 = .ok (.invokevirtual 56, 3) := by decide +kernel
theorem dL_law_390 : decode cL_law 390 = .ok (.lcmp, 1) := by decide +kernel
theorem dL_law_391 : decode cL_law 391 = .ok (.ifCond .eq 253, 3) := by decide +kernel
theorem dL_law_394 : decode cL_law 394 = .ok (.iconst 0, 1) := by decide +kernel
theorem dL_law_395 : decode cL_law 395 = .ok (.ireturn, 1) := by decide +kernel
theorem dL_law_396 : decode cL_law 396 = .ok (.aload_n 1, 1) := by decide +kernel
theorem dL_law_397 : decode cL_law 397 = .ok (.aload_n 0, 1) := by decide +kernel
theorem dL_law_398 : decode cL_law 398 = .ok (.iload_n 3, 1) := by decide +kernel
theorem dL_law_399 : decode cL_law 399 = .ok (.iconst 1, 1) := by decide +kernel
theorem dL_law_400 : decode cL_law 400 = .ok (.iadd, 1) := by decide +kernel
theorem dL_law_401 : decode cL_law 401 = .ok (.iaload, 1) := by decide +kernel
theorem dL_law_402 : decode cL_law 402 = .ok (.aload_n 0, 1) := by decide +kernel
theorem dL_law_403 : decode cL_law 403 = .ok (.iload_n 3, 1) := by decide +kernel
theorem dL_law_404 : decode cL_law 404 = .ok (.iconst 2, 1) := by decide +kernel
theorem dL_law_405 : decode cL_law 405 = .ok (.iadd, 1) := by decide +kernel
theorem dL_law_406 : decode cL_law 406 = .ok (.iaload, 1) := by decide +kernel
theorem dL_law_407 : decode cL_law 407 = .ok (.invokevirtual 57, 3) := by decide +kernel
theorem dL_law_410 : decode cL_law 410 = .ok (.aload_n 2, 1) := by decide +kernel
theorem dL_law_411 : decode cL_law 411 = .ok (.aload_n 0, 1) := by decide +kernel
theorem dL_law_412 : decode cL_law 412 = .ok (.iload_n 3, 1) := by decide +kernel
theorem dL_law_413 : decode cL_law 413 = .ok (.iconst 1, 1) := by decide +kernel
theorem dL_law_414 : decode cL_law 414 = .ok (.iadd, 1) := by decide +kernel
theorem dL_law_415 : decode cL_law 415 = .ok (.iaload, 1) := by decide +kernel
theorem dL_law_416 : decode cL_law 416 = .ok (.aload_n 0, 1) := by decide +kernel
theorem dL_law_417 : decode cL_law 417 = .ok (.iload_n 3, 1) := by decide +kernel
theorem dL_law_418 : decode cL_law 418 = .ok (.iconst 2, 1) := by decide +kernel
theorem dL_law_419 : decode cL_law 419 = .ok (.iadd, 1) := by decide +kernel
theorem dL_law_420 : decode cL_law 420 = .ok (.iaload, 1) := by decide +kernel
theorem dL_law_421 : decode cL_law 421 = .ok (.invokevirtual 60, 3) := by decide +kernel
theorem dL_law_424 : decode cL_law 424 = .ok (.lcmp, 1) := by decide +kernel
theorem dL_law_425 : decode cL_law 425 = .ok (.ifCond .eq 219, 3) := by decide +kernel
theorem dL_law_428 : decode cL_law 428 = .ok (.iconst 0, 1) := by decide +kernel
theorem dL_law_429 : decode cL_law 429 = .ok (.ireturn, 1) := by decide +kernel
theorem dL_law_430 : decode cL_law 430 = .ok (.aload_n 1, 1) := by decide +kernel
theorem dL_law_431 : decode cL_law 431 = .ok (.aload_n 0, 1) := by decide +kernel
theorem dL_law_432 : decode cL_law 432 = .ok (.iload_n 3, 1) := by decide +kernel
theorem dL_law_433 : decode cL_law 433 = .ok (.iconst 1, 1) := by decide +kernel
theorem dL_law_434 : decode cL_law 434 = .ok (.iadd, 1) := by decide +kernel
theorem dL_law_435 : decode cL_law 435 = .ok (.iaload, 1) := by decide +kernel
theorem dL_law_436 : decode cL_law 436 = .ok (.aload_n 0, 1) := by decide +kernel
theorem dL_law_437 : decode cL_law 437 = .ok (.iload_n 3, 1) := by decide +kernel
theorem dL_law_438 : decode cL_law 438 = .ok (.iconst 2, 1) := by decide +kernel
theorem dL_law_439 : decode cL_law 439 = .ok (.iadd, 1) := by decide +kernel
theorem dL_law_440 : decode cL_law 440 = .ok (.iaload, 1) := by decide +kernel
theorem dL_law_441 : decode cL_law 441 = .ok (.aload_n 0, 1) := by decide +kernel
theorem dL_law_442 : decode cL_law 442 = .ok (.iload_n 3, 1) := by decide +kernel
theorem dL_law_443 : decode cL_law 443 = .ok (.iconst 3, 1) := by decide +kernel
theorem dL_law_444 : decode cL_law 444 = .ok (.iadd, 1) := by decide +kernel
theorem dL_law_445 : decode cL_law 445 = .ok (.iaload, 1) := by decide +kernel
theorem dL_law_446 : decode cL_law 446 = .ok (.invokevirtual 61, 3) := by decide +kernel
theorem dL_law_449 : decode cL_law 449 = .ok (.aload_n 2, 1) := by decide +kernel
theorem dL_law_450 : decode cL_law 450 = .ok (.aload_n 0, 1) := by decide +kernel
theorem dL_law_451 : decode cL_law 451 = .ok (.iload_n 3, 1) := by decide +kernel
theorem dL_law_452 : decode cL_law 452 = .ok (.iconst 1, 1) := by decide +kernel
theorem dL_law_453 : decode cL_law 453 = .ok (.iadd, 1) := by decide +kernel
theorem dL_law_454 : decode cL_law 454 = .ok (.iaload, 1) := by decide +kernel
theorem dL_law_455 : decode cL_law 455 = .ok (.aload_n 0, 1) := by decide +kernel
theorem dL_law_456 : decode cL_law 456 = .ok (.iload_n 3, 1) := by decide +kernel
theorem dL_law_457 : decode cL_law 457 = .ok (.iconst 2, 1) := by decide +kernel
theorem dL_law_458 : decode cL_law 458 = .ok (.iadd, 1) := by decide +kernel
theorem dL_law_459 : decode cL_law 459 = .ok (.iaload, 1) := by decide +kernel
theorem dL_law_460 : decode cL_law 460 = .ok (.aload_n 0, 1) := by decide +kernel
theorem dL_law_461 : decode cL_law 461 = .ok (.iload_n 3, 1) := by decide +kernel
theorem dL_law_462 : decode cL_law 462 = .ok (.iconst 3, 1) := by decide +kernel
theorem dL_law_463 : decode cL_law 463 = .ok (.iadd, 1) := by decide +kernel
theorem dL_law_464 : decode cL_law 464 = .ok (.iaload, 1) := by decide +kernel
theorem dL_law_465 : decode cL_law 465 = .ok (.invokevirtual 64, 3) := by decide +kernel
theorem dL_law_468 : decode cL_law 468 = .ok (.lcmp, 1) := by decide +kernel
theorem dL_law_469 : decode cL_law 469 = .ok (.ifCond .eq 175, 3) := by decide +kernel
theorem dL_law_472 : decode cL_law 472 = .ok (.iconst 0, 1) := by decide +kernel
theorem dL_law_473 : decode cL_law 473 = .ok (.ireturn, 1) := by decide +kernel
theorem dL_law_474 : decode cL_law 474 = .ok (.aload_n 1, 1) := by decide +kernel
theorem dL_law_475 : decode cL_law 475 = .ok (.aload_n 0, 1) := by decide +kernel
theorem dL_law_476 : decode cL_law 476 = .ok (.iload_n 3, 1) := by decide +kernel
theorem dL_law_477 : decode cL_law 477 = .ok (.iconst 1, 1) := by decide +kernel
theorem dL_law_478 : decode cL_law 478 = .ok (.iadd, 1) := by decide +kernel
theorem dL_law_479 : decode cL_law 479 = .ok (.iaload, 1) := by decide +kernel
theorem dL_law_480 : decode cL_law 480 = .ok (.aload_n 0, 1) := by decide +kernel
theorem dL_law_481 : decode cL_law 481 = .ok (.iload_n 3, 1) := by decide +kernel
theorem dL_law_482 : decode cL_law 482 = .ok (.iconst 2, 1) := by decide +kernel
theorem dL_law_483 : decode cL_law 483 = .ok (.iadd, 1) := by decide +kernel
theorem dL_law_484 : decode cL_law 484 = .ok (.iaload, 1) := by decide +kernel
theorem dL_law_485 : decode cL_law 485 = .ok (.aload_n 0, 1) := by decide +kernel
theorem dL_law_486 : decode cL_law 486 = .ok (.iload_n 3, 1) := by decide +kernel
theorem dL_law_487 : decode cL_law 487 = .ok (.iconst 3, 1) := by decide +kernel
theorem dL_law_488 : decode cL_law 488 = .ok (.iadd, 1) := by decide +kernel
theorem dL_law_489 : decode cL_law 489 = .ok (.iaload, 1) := by decide +kernel
theorem dL_law_490 : decode cL_law 490 = .ok (.invokevirtual 65, 3) := by decide +kernel
theorem dL_law_493 : decode cL_law 493 = .ok (.aload_n 2, 1) := by decide +kernel
theorem dL_law_494 : decode cL_law 494 = .ok (.aload_n 0, 1) := by decide +kernel
theorem dL_law_495 : decode cL_law 495 = .ok (.iload_n 3, 1) := by decide +kernel
theorem dL_law_496 : decode cL_law 496 = .ok (.iconst 1, 1) := by decide +kernel
theorem dL_law_497 : decode cL_law 497 = .ok (.iadd, 1) := by decide +kernel
theorem dL_law_498 : decode cL_law 498 = .ok (.iaload, 1) := by decide +kernel
theorem dL_law_499 : decode cL_law 499 = .ok (.aload_n 0, 1) := by decide +kernel
theorem dL_law_500 : decode cL_law 500 = .ok (.iload_n 3, 1) := by decide +kernel
theorem dL_law_501 : decode cL_law 501 = .ok (.iconst 2, 1) := by decide +kernel
theorem dL_law_502 : decode cL_law 502 = .ok (.iadd, 1) := by decide +kernel
theorem dL_law_503 : decode cL_law 503 = .ok (.iaload, 1) := by decide +kernel
theorem dL_law_504 : decode cL_law 504 = .ok (.aload_n 0, 1) := by decide +kernel
theorem dL_law_505 : decode cL_law 505 = .ok (.iload_n 3, 1) := by decide +kernel
theorem dL_law_506 : decode cL_law 506 = .ok (.iconst 3, 1) := by decide +kernel
theorem dL_law_507 : decode cL_law 507 = .ok (.iadd, 1) := by decide +kernel
theorem dL_law_508 : decode cL_law 508 = .ok (.iaload, 1) := by decide +kernel
theorem dL_law_509 : decode cL_law 509 = .ok (.invokevirtual 68, 3) := by decide +kernel
theorem dL_law_512 : decode cL_law 512 = .ok (.lcmp, 1) := by decide +kernel
theorem dL_law_513 : decode cL_law 513 = .ok (.ifCond .eq 131, 3) := by decide +kernel
theorem dL_law_516 : decode cL_law 516 = .ok (.iconst 0, 1) := by decide +kernel
theorem dL_law_517 : decode cL_law 517 = .ok (.ireturn, 1) := by decide +kernel
theorem dL_law_518 : decode cL_law 518 = .ok (.aload_n 1, 1) := by decide +kernel
theorem dL_law_519 : decode cL_law 519 = .ok (.aload_n 0, 1) := by decide +kernel
theorem dL_law_520 : decode cL_law 520 = .ok (.iload_n 3, 1) := by decide +kernel
theorem dL_law_521 : decode cL_law 521 = .ok (.iconst 1, 1) := by decide +kernel
theorem dL_law_522 : decode cL_law 522 = .ok (.iadd, 1) := by decide +kernel
theorem dL_law_523 : decode cL_law 523 = .ok (.iaload, 1) := by decide +kernel
theorem dL_law_524 : decode cL_law 524 = .ok (.aload_n 0, 1) := by decide +kernel
theorem dL_law_525 : decode cL_law 525 = .ok (.iload_n 3, 1) := by decide +kernel
theorem dL_law_526 : decode cL_law 526 = .ok (.iconst 2, 1) := by decide +kernel
theorem dL_law_527 : decode cL_law 527 = .ok (.iadd, 1) := by decide +kernel
theorem dL_law_528 : decode cL_law 528 = .ok (.iaload, 1) := by decide +kernel
theorem dL_law_529 : decode cL_law 529 = .ok (.aload_n 0, 1) := by decide +kernel
theorem dL_law_530 : decode cL_law 530 = .ok (.iload_n 3, 1) := by decide +kernel
theorem dL_law_531 : decode cL_law 531 = .ok (.iconst 3, 1) := by decide +kernel
theorem dL_law_532 : decode cL_law 532 = .ok (.iadd, 1) := by decide +kernel
theorem dL_law_533 : decode cL_law 533 = .ok (.iaload, 1) := by decide +kernel
theorem dL_law_534 : decode cL_law 534 = .ok (.invokevirtual 69, 3) := by decide +kernel
theorem dL_law_537 : decode cL_law 537 = .ok (.aload_n 2, 1) := by decide +kernel
theorem dL_law_538 : decode cL_law 538 = .ok (.aload_n 0, 1) := by decide +kernel
theorem dL_law_539 : decode cL_law 539 = .ok (.iload_n 3, 1) := by decide +kernel
theorem dL_law_540 : decode cL_law 540 = .ok (.iconst 1, 1) := by decide +kernel
theorem dL_law_541 : decode cL_law 541 = .ok (.iadd, 1) := by decide +kernel
theorem dL_law_542 : decode cL_law 542 = .ok (.iaload, 1) := by decide +kernel
theorem dL_law_543 : decode cL_law 543 = .ok (.aload_n 0, 1) := by decide +kernel
theorem dL_law_544 : decode cL_law 544 = .ok (.iload_n 3, 1) := by decide +kernel
theorem dL_law_545 : decode cL_law 545 = .ok (.iconst 2, 1) := by decide +kernel
theorem dL_law_546 : decode cL_law 546 = .ok (.iadd, 1) := by decide +kernel
theorem dL_law_547 : decode cL_law 547 = .ok (.iaload, 1) := by decide +kernel
theorem dL_law_548 : decode cL_law 548 = .ok (.aload_n 0, 1) := by decide +kernel
theorem dL_law_549 : decode cL_law 549 = .ok (.iload_n 3, 1) := by decide +kernel
theorem dL_law_550 : decode cL_law 550 = .ok (.iconst 3, 1) := by decide +kernel
theorem dL_law_551 : decode cL_law 551 = .ok (.iadd, 1) := by decide +kernel
theorem dL_law_552 : decode cL_law 552 = .ok (.iaload, 1) := by decide +kernel
theorem dL_law_553 : decode cL_law 553 = .ok (.invokevirtual 72, 3) := by decide +kernel
theorem dL_law_556 : decode cL_law 556 = .ok (.lcmp, 1) := by decide +kernel
theorem dL_law_557 : decode cL_law 557 = .ok (.ifCond .eq 87, 3) := by decide +kernel
theorem dL_law_560 : decode cL_law 560 = .ok (.iconst 0, 1) := by decide +kernel
theorem dL_law_561 : decode cL_law 561 = .ok (.ireturn, 1) := by decide +kernel
theorem dL_law_562 : decode cL_law 562 = .ok (.aload_n 1, 1) := by decide +kernel
theorem dL_law_563 : decode cL_law 563 = .ok (.aload_n 0, 1) := by decide +kernel
theorem dL_law_564 : decode cL_law 564 = .ok (.iload_n 3, 1) := by decide +kernel
theorem dL_law_565 : decode cL_law 565 = .ok (.iconst 1, 1) := by decide +kernel
theorem dL_law_566 : decode cL_law 566 = .ok (.iadd, 1) := by decide +kernel
theorem dL_law_567 : decode cL_law 567 = .ok (.iaload, 1) := by decide +kernel
theorem dL_law_568 : decode cL_law 568 = .ok (.aload_n 0, 1) := by decide +kernel
theorem dL_law_569 : decode cL_law 569 = .ok (.iload_n 3, 1) := by decide +kernel
theorem dL_law_570 : decode cL_law 570 = .ok (.iconst 2, 1) := by decide +kernel
theorem dL_law_571 : decode cL_law 571 = .ok (.iadd, 1) := by decide +kernel
theorem dL_law_572 : decode cL_law 572 = .ok (.iaload, 1) := by decide +kernel
theorem dL_law_573 : decode cL_law 573 = .ok (.aload_n 0, 1) := by decide +kernel
theorem dL_law_574 : decode cL_law 574 = .ok (.iload_n 3, 1) := by decide +kernel
theorem dL_law_575 : decode cL_law 575 = .ok (.iconst 3, 1) := by decide +kernel
theorem dL_law_576 : decode cL_law 576 = .ok (.iadd, 1) := by decide +kernel
theorem dL_law_577 : decode cL_law 577 = .ok (.iaload, 1) := by decide +kernel
theorem dL_law_578 : decode cL_law 578 = .ok (.invokevirtual 73, 3) := by decide +kernel
theorem dL_law_581 : decode cL_law 581 = .ok (.aload_n 2, 1) := by decide +kernel
theorem dL_law_582 : decode cL_law 582 = .ok (.aload_n 0, 1) := by decide +kernel
theorem dL_law_583 : decode cL_law 583 = .ok (.iload_n 3, 1) := by decide +kernel
theorem dL_law_584 : decode cL_law 584 = .ok (.iconst 1, 1) := by decide +kernel
theorem dL_law_585 : decode cL_law 585 = .ok (.iadd, 1) := by decide +kernel
theorem dL_law_586 : decode cL_law 586 = .ok (.iaload, 1) := by decide +kernel
theorem dL_law_587 : decode cL_law 587 = .ok (.aload_n 0, 1) := by decide +kernel
theorem dL_law_588 : decode cL_law 588 = .ok (.iload_n 3, 1) := by decide +kernel
theorem dL_law_589 : decode cL_law 589 = .ok (.iconst 2, 1) := by decide +kernel
theorem dL_law_590 : decode cL_law 590 = .ok (.iadd, 1) := by decide +kernel
theorem dL_law_591 : decode cL_law 591 = .ok (.iaload, 1) := by decide +kernel
theorem dL_law_592 : decode cL_law 592 = .ok (.aload_n 0, 1) := by decide +kernel
theorem dL_law_593 : decode cL_law 593 = .ok (.iload_n 3, 1) := by decide +kernel
theorem dL_law_594 : decode cL_law 594 = .ok (.iconst 3, 1) := by decide +kernel
theorem dL_law_595 : decode cL_law 595 = .ok (.iadd, 1) := by decide +kernel
theorem dL_law_596 : decode cL_law 596 = .ok (.iaload, 1) := by decide +kernel
theorem dL_law_597 : decode cL_law 597 = .ok (.invokevirtual 76, 3) := by decide +kernel
theorem dL_law_600 : decode cL_law 600 = .ok (.lcmp, 1) := by decide +kernel
theorem dL_law_601 : decode cL_law 601 = .ok (.ifCond .eq 43, 3) := by decide +kernel
theorem dL_law_604 : decode cL_law 604 = .ok (.iconst 0, 1) := by decide +kernel
theorem dL_law_605 : decode cL_law 605 = .ok (.ireturn, 1) := by decide +kernel
theorem dL_law_606 : decode cL_law 606 = .ok (.aload_n 1, 1) := by decide +kernel
theorem dL_law_607 : decode cL_law 607 = .ok (.aload_n 0, 1) := by decide +kernel
theorem dL_law_608 : decode cL_law 608 = .ok (.iload_n 3, 1) := by decide +kernel
theorem dL_law_609 : decode cL_law 609 = .ok (.iconst 1, 1) := by decide +kernel
theorem dL_law_610 : decode cL_law 610 = .ok (.iadd, 1) := by decide +kernel
theorem dL_law_611 : decode cL_law 611 = .ok (.iaload, 1) := by decide +kernel
theorem dL_law_612 : decode cL_law 612 = .ok (.invokevirtual 77, 3) := by decide +kernel
theorem dL_law_615 : decode cL_law 615 = .ok (.aload_n 2, 1) := by decide +kernel
theorem dL_law_616 : decode cL_law 616 = .ok (.aload_n 0, 1) := by decide +kernel
theorem dL_law_617 : decode cL_law 617 = .ok (.iload_n 3, 1) := by decide +kernel
theorem dL_law_618 : decode cL_law 618 = .ok (.iconst 1, 1) := by decide +kernel
theorem dL_law_619 : decode cL_law 619 = .ok (.iadd, 1) := by decide +kernel
theorem dL_law_620 : decode cL_law 620 = .ok (.iaload, 1) := by decide +kernel
theorem dL_law_621 : decode cL_law 621 = .ok (.invokevirtual 80, 3) := by decide +kernel
theorem dL_law_624 : decode cL_law 624 = .ok (.lcmp, 1) := by decide +kernel
theorem dL_law_625 : decode cL_law 625 = .ok (.ifCond .eq 19, 3) := by decide +kernel
theorem dL_law_628 : decode cL_law 628 = .ok (.iconst 0, 1) := by decide +kernel
theorem dL_law_629 : decode cL_law 629 = .ok (.ireturn, 1) := by decide +kernel
theorem dL_law_630 : decode cL_law 630 = .ok (.aload_n 1, 1) := by decide +kernel
theorem dL_law_631 : decode cL_law 631 = .ok (.invokevirtual 81, 3) := by decide +kernel
theorem dL_law_634 : decode cL_law 634 = .ok (.aload_n 2, 1) := by decide +kernel
theorem dL_law_635 : decode cL_law 635 = .ok (.invokevirtual 84, 3) := by decide +kernel
theorem dL_law_638 : decode cL_law 638 = .ok (.lcmp, 1) := by decide +kernel
theorem dL_law_639 : decode cL_law 639 = .ok (.ifCond .eq 5, 3) := by decide +kernel
theorem dL_law_642 : decode cL_law 642 = .ok (.iconst 0, 1) := by decide +kernel
theorem dL_law_643 : decode cL_law 643 = .ok (.ireturn, 1) := by decide +kernel
theorem dL_law_644 : decode cL_law 644 = .ok (.iinc 3 4, 3) := by decide +kernel
theorem dL_law_647 : decode cL_law 647 = .ok (.goto (-629), 3) := by decide +kernel
theorem dL_law_650 : decode cL_law 650 = .ok (.iconst 1, 1) := by decide +kernel
theorem dL_law_651 : decode cL_law 651 = .ok (.ireturn, 1) := by decide +kernel
end
section
/-! the frame: one context, one world, one form of contract for all methods -/
theorem uw_all : wsL_law.all goodWord = true := by decide +kernel
theorem uw_good {w : Cond} (h : w ∈ wsL_law) : (w.onTables && w.keeps) = true ∨ ∃ ty, w = .arrayClass ty := good_of_word (List.all_eq_true.mp uw_all w h)
def cw (y : MethodName) (b : ByteArray) (n : Nat) (r : Option FieldType) : List Cond := .code y b n r :: wsL_law
theorem cw_good {y y2 : MethodName} {b b2 : ByteArray} {n n2 : Nat} {r r2 : Option FieldType} (h : Cond.code y2 b2 n2 r2 ∈ wsL_law) : GoodIn (cw y b n r) (cw y2 b2 n2 r2) := fun w hw => by
  rcases List.mem_cons.mp hw with e | e
  · rw [e]; exact ⟨List.mem_cons_of_mem _ h, uw_good h⟩
  · exact ⟨List.mem_cons_of_mem _ e, uw_good e⟩
theorem uw_cw {y2 : MethodName} {b2 : ByteArray} {n2 : Nat} {r2 : Option FieldType} (h : Cond.code y2 b2 n2 r2 ∈ wsL_law) : GoodIn wsL_law (cw y2 b2 n2 r2) := fun w hw => by
  rcases List.mem_cons.mp hw with e | e
  · rw [e]; exact ⟨h, uw_good h⟩
  · exact ⟨e, uw_good e⟩
def rl (d : Nat) : Room := { frames := d, cells := 0, slots := 0, locals := 40 * d }
def KK (D : va_G) (cI cJ : ClassId) (U : State) : Prop := va_K D vwCl [(cI, .int), (cJ, .long)] U ∧ va_Nw (.methodLinkNest RX2 55 yX6_isIn "MudShares") U ∧ va_Nw (.methodLinkNest RX0 73 yX6_isIn "MudShares") U
theorem KK.warm {D : va_G} {cI cJ : ClassId} {s U : State} (hW : s.WarmedH U.vm) (h : KK D cI cJ s) : KK D cI cJ U := ⟨va_K.moved hW.alike h.1, va_Nw.warmM hW h.2.1, va_Nw.warmM hW h.2.2⟩
def PRE (D : va_G) (cI cJ : ClassId) (W0 : va_W) (sz : Nat) (U : State) : Prop := U.heap.size = sz ∧ va_P D vwCl W0 U.heap ∧ KK D cI cJ U ∧ va_D (fun _ => True) W0
theorem PRE.blind {D : va_G} {cI cJ : ClassId} {W0 : va_W} {sz : Nat} {av : List Value} : FrameBlind (va_Pc av (PRE D cI cJ W0 sz)) := fun a U g mk q => by
  obtain ⟨q0, q1, qP, qK, qD⟩ := q
  exact ⟨q0, q1, qP, ⟨va_K.moved (u := U) (U := U.calling g mk a) (Vm.Alike.refl U.vm) qK.1, va_Nw.same (u := U) (U := U.calling g mk a) rfl rfl qK.2.1, va_Nw.same (u := U) (U := U.calling g mk a) rfl rfl qK.2.2⟩, qD⟩
abbrev QB (D : va_G) (W1 : va_W) (A : Nat → Prop) : Unit → State → Prop := fun _ t => va_P D vwCl W1 t.heap ∧ va_D A W1
def QI (D : va_G) (W1 : va_W) (v : Int32) (A : Nat → Prop) : Array Value → State → Outcome → State → Prop := va_Qi (fun r (_ : Unit) => r = v) (QB D W1 A) A
def QL (D : va_G) (W1 : va_W) (v : Int64) (A : Nat → Prop) : Array Value → State → Outcome → State → Prop := va_Ql (fun r (_ : Unit) => r = v) (QB D W1 A) A
def QV (D : va_G) (W1 : va_W) (A : Nat → Prop) : Array Value → State → Outcome → State → Prop := va_Qv (fun (_ : Unit) => True) (QB D W1 A) A
/-- a contract: from the world W0 the method answers v and leaves the world W1; nothing new is made -/
def CI (l : Launch) (y : MethodName) (b : ByteArray) (n : Nat) (rt : FieldType) (d : Nat) (D : va_G) (cI cJ : ClassId) (av : List Value) (W0 W1 : va_W) (v : Int32) : Prop :=
  ∀ sz, Met l y (cw y b n (some rt)) (rl d) (va_Pc av (PRE D cI cJ W0 sz)) (QI D W1 v (va_A W0 sz)) 0 0 (va_A W0 sz)
def CL (l : Launch) (y : MethodName) (b : ByteArray) (n : Nat) (d : Nat) (D : va_G) (cI cJ : ClassId) (av : List Value) (W0 W1 : va_W) (v : Int64) : Prop :=
  ∀ sz, Met l y (cw y b n (some .long)) (rl d) (va_Pc av (PRE D cI cJ W0 sz)) (QL D W1 v (va_A W0 sz)) 0 0 (va_A W0 sz)
def CV (l : Launch) (y : MethodName) (b : ByteArray) (n : Nat) (d : Nat) (D : va_G) (cI cJ : ClassId) (av : List Value) (W0 W1 : va_W) : Prop :=
  ∀ sz, Met l y (cw y b n none) (rl d) (va_Pc av (PRE D cI cJ W0 sz)) (QV D W1 (va_A W0 sz)) 0 0 (va_A W0 sz)
/-- what holds all along a walk -/
def Cx (p : Program) (m : MethodId) (c : Code) (cc : ByteArray) (nL : Nat) (s : State) (args : Array Value) (own : String) (D : va_G) (cI cJ : ClassId) : Prop :=
  p.tables.exec = Jvm.exec ∧ c.code = cc ∧ c.maxLocals = nL ∧ s.vm.findClass own = some m.cls ∧ (∀ w ∈ wsL_law, w.before args s = true) ∧ KK D cI cJ s
def Wd (D : va_G) (A : Nat → Prop) (H0 H : Heap) (locs : List Loc) (ws : va_W) : Prop := va_P D vwCl ws H ∧ va_D A ws ∧ va_S A H0 H locs ∧ ∀ q : Nat, H0.size ≤ q → A q
theorem Wd.as {D : va_G} {A : Nat → Prop} {H0 H : Heap} {locs : List Loc} {ws ws' : va_W} (h : Wd D A H0 H locs ws) (e : ws = ws') : Wd D A H0 H locs ws' := e ▸ h
theorem fr_entry {l : Launch} {y : MethodName} {b : ByteArray} {n d : Nat} {ret : Option FieldType} {D : va_G} {cI cJ : ClassId} {av : List Value} {W0 : va_W} {Qc : (Nat → Prop) → Array Value → State → Outcome → State → Prop}
    (hy : plainName y.cls = true) (hn : Nat.ble (lg_sl av).length n = true)
    (body : ∀ (p : Program) (e : Env) (s : State) (m : MethodId) (below : List Frame) (meth : Method) (c : Code) (A : Nat → Prop), Cx p m c b n s av.toArray y.cls D cI cJ → meth.sig.returnType = ret → meth.locks = false → Wd D A s.heap s.heap [] W0 → ∀ ls : Array Slot, lv_has ls n (lv_args 0 av) →
      W p l e (rl d) s m av.toArray below meth c s.heap [] 0 0 (MQ below (Qc A) av.toArray s 0 0 A) (F0 m 0 ls [])) :
    ∀ sz, Met l y (cw y b n ret) (rl d) (va_Pc av (PRE D cI cJ W0 sz)) (Qc (va_A W0 sz)) 0 0 (va_A W0 sz) := by
  intro sz
  refine Met.ofW (cc := b) (maxL := n) (ret := ret) hy rfl ?_
  intro p e s m args below meth c s₁ B hml hv
  obtain ⟨rfl, hsz, hP, hK, hD0⟩ := hv
  have hts := atoms_spec (ws := cw y b n ret) B.pre
  have hown : s.vm.findClass y.cls = some m.cls := findClass_of_methodNamed B.named
  subst hsz
  have hD := hD0.self (sz := s.heap.size)
  have hl := lv_entry av (n := n) (Nat.le_of_ble_eq_true hn)
  rw [lg_entry_eq]
  exact body p e s m below meth c _ ⟨B.exec, B.bytes, hml, hown, fun w h => hts w (List.mem_cons_of_mem _ h), hK⟩ B.returns B.notSynchronized ⟨hP, hD, va_S.rf, fun q h => Or.inr h⟩ _ hl
theorem fr_entryI {l : Launch} {y : MethodName} {b : ByteArray} {n d : Nat} {rt : FieldType} {v : Int32} {D : va_G} {cI cJ : ClassId} {av : List Value} {W0 W1 : va_W} (hy : plainName y.cls = true) (hn : Nat.ble (lg_sl av).length n = true)
    (body : ∀ (p : Program) (e : Env) (s : State) (m : MethodId) (args : Array Value) (below : List Frame) (meth : Method) (c : Code) (A : Nat → Prop) (Q : State → Prop) (H : Heap) (locs : List Loc), Q = MQ below (QI D W1 v A) args s 0 0 A → Cx p m c b n s args y.cls D cI cJ → meth.sig.returnType = some rt → meth.locks = false → Wd D A s.heap H locs W0 → ∀ ls : Array Slot, lv_has ls n (lv_args 0 av) →
      W p l e (rl d) s m args below meth c H locs 0 0 Q (F0 m 0 ls [])) : CI l y b n rt d D cI cJ av W0 W1 v :=
  fr_entry (Qc := fun A => QI D W1 v A) hy hn (fun p e s m below meth c A C0 h1 h2 w ls hl => body p e s m _ below meth c A _ _ _ rfl C0 h1 h2 w ls hl)
theorem fr_entryL {l : Launch} {y : MethodName} {b : ByteArray} {n d : Nat} {v : Int64} {D : va_G} {cI cJ : ClassId} {av : List Value} {W0 W1 : va_W} (hy : plainName y.cls = true) (hn : Nat.ble (lg_sl av).length n = true)
    (body : ∀ (p : Program) (e : Env) (s : State) (m : MethodId) (args : Array Value) (below : List Frame) (meth : Method) (c : Code) (A : Nat → Prop) (Q : State → Prop) (H : Heap) (locs : List Loc), Q = MQ below (QL D W1 v A) args s 0 0 A → Cx p m c b n s args y.cls D cI cJ → meth.sig.returnType = some .long → meth.locks = false → Wd D A s.heap H locs W0 → ∀ ls : Array Slot, lv_has ls n (lv_args 0 av) →
      W p l e (rl d) s m args below meth c H locs 0 0 Q (F0 m 0 ls [])) : CL l y b n d D cI cJ av W0 W1 v :=
  fr_entry (Qc := fun A => QL D W1 v A) hy hn (fun p e s m below meth c A C0 h1 h2 w ls hl => body p e s m _ below meth c A _ _ _ rfl C0 h1 h2 w ls hl)
theorem fr_entryV {l : Launch} {y : MethodName} {b : ByteArray} {n d : Nat}  {D : va_G} {cI cJ : ClassId} {av : List Value} {W0 W1 : va_W} (hy : plainName y.cls = true) (hn : Nat.ble (lg_sl av).length n = true)
    (body : ∀ (p : Program) (e : Env) (s : State) (m : MethodId) (args : Array Value) (below : List Frame) (meth : Method) (c : Code) (A : Nat → Prop) (Q : State → Prop) (H : Heap) (locs : List Loc), Q = MQ below (QV D W1 A) args s 0 0 A → Cx p m c b n s args y.cls D cI cJ → meth.sig.returnType = none → meth.locks = false → Wd D A s.heap H locs W0 → ∀ ls : Array Slot, lv_has ls n (lv_args 0 av) →
      W p l e (rl d) s m args below meth c H locs 0 0 Q (F0 m 0 ls [])) : CV l y b n d D cI cJ av W0 W1 :=
  fr_entry (Qc := fun A => QV D W1 A) hy hn (fun p e s m below meth c A C0 h1 h2 w ls hl => body p e s m _ below meth c A _ _ _ rfl C0 h1 h2 w ls hl)
/-- a field: of which object kind, which place, its link among the words -/
def FG (own : String) (idx ci k : Nat) : Prop := ∃ (C : String) (T : u_T) (N : Nat), vwCl[ci]? = some (C, T, N) ∧ k < N ∧ (∀ w ∈ u_ws C T N, w ∈ wsL_law) ∧ Cond.fieldLink own idx (T k).1 (T k).2.1 (T k).2.2.1 ∈ wsL_law
def FP (own : String) (idx ci k : Nat) (ty : FieldType) : Prop := ∃ (C : String) (T : u_T) (N : Nat) (ty0 : Nat → FieldType), vwCl[ci]? = some (C, T, N) ∧ k < N ∧ (∀ w ∈ u_ws C T N, w ∈ wsL_law) ∧ Cond.fieldLink own idx (T k).1 (T k).2.1 (T k).2.2.1 ∈ wsL_law ∧ (∀ k, k < N → parseFieldDescriptor (T k).2.2.1 = some (ty0 k)) ∧ (∀ a, a < N → ∀ b, b < N → a ≠ b → (T a).2.1 ≠ (T b).2.1) ∧ (T k).2.2.2 = false ∧ parseFieldDescriptor (T k).2.2.1 = some ty
section FR
variable {p : Program} {l : Launch} {e : Env} {R : Room} {s : State} {m : MethodId} {args : Array Value} {below : List Frame} {meth : Method} {c : Code} {H : Heap} {locs : List Loc} {cells slots : Nat} {Q : State → Prop}
variable {cc : ByteArray} {pc nL : Nat} {ls : Array Slot} {rest : List Value} {D : va_G} {A : Nat → Prop} {a : Nat} {ws : va_W} {own : String} {cI cJ : ClassId}
theorem fr_get (C : Cx p m c cc nL s args own D cI cJ) (w : Wd D A s.heap H locs ws) {idx ci k : Nat} (f : FG own idx ci k) (q0 : Nat) {fs : List Value} (he : ws[q0]? = some (a, .inr (ci, fs))) {v : Value} (hv : fs[k]? = some v) (hdg : decode cc pc = .ok (.getfield idx, 3))
    (kk : W p l e R s m args below meth c H locs cells slots Q (F0 m (pc + 3) ls (v :: rest))) : W p l e R s m args below meth c H locs cells slots Q (F0 m pc ls (.ref a :: rest)) := by
  obtain ⟨Cn, T, N, hc, hk, hin, hlk⟩ := f
  obtain ⟨hx, hb, hml, hown, hts, hK⟩ := C
  exact va_get hx hb hts hin hown hK.1 w.1 q0 he hc k hk (hts _ hlk) (fun _ h9 => h9) hv hdg kk
theorem fr_put (C : Cx p m c cc nL s args own D cI cJ) (w : Wd D A s.heap H locs ws) {idx ci k : Nat} {ty : FieldType} (f : FP own idx ci k ty) (q0 : Nat) {fs : List Value} (he : ws[q0]? = some (a, .inr (ci, fs))) {v : Value} (hn : narrow ty v = v) (hfit : fits ty v = true) (hl : Nat.blt k fs.length = true) {ws' : va_W} (hw : ws.set q0 (a, .inr (ci, fs.set k v)) = ws') (hdg : decode cc pc = .ok (.putfield idx, 3))
    (kk : ∀ (H : Heap) (locs : List Loc), Wd D A s.heap H locs ws' → W p l e R s m args below meth c H locs cells slots Q (F0 m (pc + 3) ls rest)) : W p l e R s m args below meth c H locs cells slots Q (F0 m pc ls (v :: .ref a :: rest)) := by
  obtain ⟨Cn, T, N, ty0, hc, hk, hin, hlk, hty, hnm, hfin, hd⟩ := f
  obtain ⟨hx, hb, hml, hown, hts, hK⟩ := C
  subst hw
  exact va_put hx hb hts hin ty0 hty hnm hown hK.1 w.1 w.2.1 w.2.2.1 q0 he hc k hk (hts _ hlk) (fun _ h9 => h9) hfin hd hn hfit (Nat.le_of_ble_eq_true hl) hdg (fun H1 locs1 h1 h2 h3 => kk H1 locs1 ⟨h1, h2, h3, w.2.2.2⟩)
theorem fr_iald (C : Cx p m c cc nL s args own D cI cJ) (w : Wd D A s.heap H locs ws) (q0 : Nat) {n : Nat} {f : Nat → Int32} (ha : ws[q0]? = some (a, .inl (cI, n, .inl f))) {i : Int32} (hin : vp_in i n) (hdg : decode cc pc = .ok (.iaload, 1))
    (kk : W p l e R s m args below meth c H locs cells slots Q (F0 m (pc + 1) ls (.int (f i.toNatClampNeg) :: rest))) : W p l e R s m args below meth c H locs cells slots Q (F0 m pc ls (.int i :: .ref a :: rest)) :=
  va_iald C.1 C.2.1 C.2.2.2.2.2.1 w.1 q0 0 ha rfl hin hdg kk
theorem fr_lald (C : Cx p m c cc nL s args own D cI cJ) (w : Wd D A s.heap H locs ws) (q0 : Nat) {n : Nat} {f : Nat → Int64} (ha : ws[q0]? = some (a, .inl (cJ, n, .inr (.inl f)))) {i : Int32} (hin : vp_in i n) (hdg : decode cc pc = .ok (.laload, 1))
    (kk : W p l e R s m args below meth c H locs cells slots Q (F0 m (pc + 1) ls (.long (f i.toNatClampNeg) :: rest))) : W p l e R s m args below meth c H locs cells slots Q (F0 m pc ls (.int i :: .ref a :: rest)) :=
  va_lald C.1 C.2.1 C.2.2.2.2.2.1 w.1 q0 1 ha rfl hin hdg kk
theorem fr_iast (C : Cx p m c cc nL s args own D cI cJ) (w : Wd D A s.heap H locs ws) (q0 : Nat) {n : Nat} {f : Nat → Int32} (ha : ws[q0]? = some (a, .inl (cI, n, .inl f))) {i x : Int32} (hin : vp_in i n) {ws' : va_W} (hw : ws.set q0 (a, .inl (cI, n, .inl (upd f i.toNatClampNeg x))) = ws') (hdg : decode cc pc = .ok (.iastore, 1))
    (kk : ∀ (H : Heap) (locs : List Loc), Wd D A s.heap H locs ws' → W p l e R s m args below meth c H locs cells slots Q (F0 m (pc + 1) ls rest)) : W p l e R s m args below meth c H locs cells slots Q (F0 m pc ls (.int x :: .int i :: .ref a :: rest)) := by
  subst hw
  exact va_iast C.1 C.2.1 C.2.2.2.2.2.1 w.1 w.2.1 w.2.2.1 q0 0 ha rfl hin hdg (fun H1 locs1 h1 h2 h3 => kk H1 locs1 ⟨h1, h2, h3, w.2.2.2⟩)
theorem fr_last (C : Cx p m c cc nL s args own D cI cJ) (w : Wd D A s.heap H locs ws) (q0 : Nat) {n : Nat} {f : Nat → Int64} (ha : ws[q0]? = some (a, .inl (cJ, n, .inr (.inl f)))) {i : Int32} {x : Int64} (hin : vp_in i n) {ws' : va_W} (hw : ws.set q0 (a, .inl (cJ, n, .inr (.inl (vp_updL f i.toNatClampNeg x)))) = ws') (hdg : decode cc pc = .ok (.lastore, 1))
    (kk : ∀ (H : Heap) (locs : List Loc), Wd D A s.heap H locs ws' → W p l e R s m args below meth c H locs cells slots Q (F0 m (pc + 1) ls rest)) : W p l e R s m args below meth c H locs cells slots Q (F0 m pc ls (.long x :: .int i :: .ref a :: rest)) := by
  subst hw
  exact va_last C.1 C.2.1 C.2.2.2.2.2.1 w.1 w.2.1 w.2.2.1 q0 1 ha rfl hin hdg (fun H1 locs1 h1 h2 h3 => kk H1 locs1 ⟨h1, h2, h3, w.2.2.2⟩)
/-- lcmp and the branch behind it -/
theorem fr_lle (hx : p.tables.exec = Jvm.exec) (hb : c.code = cc) {x y : Int64} {off : Int} {tgt : Nat} (h1 : decode cc pc = .ok (.lcmp, 1)) (h2 : decode cc (pc + 1) = .ok (.ifCond .le off, 3)) (ht : ((pc + 1 : Nat) : Int) + off = (tgt : Int))
    (kt : x ≤ y → W p l e R s m args below meth c H locs cells slots Q (F0 m tgt ls rest)) (kf : ¬ x ≤ y → W p l e R s m args below meth c H locs cells slots Q (F0 m (pc + 4) ls rest)) : W p l e R s m args below meth c H locs cells slots Q (F0 m pc ls (.long y :: .long x :: rest)) := by
  refine W.lcmp hx hb h1 (lv_if_le hx hb h2 ht (fun h => kt ?_) (fun h => kf ?_)) <;>
  · unfold lg_cmp at h
    simp only [gt_iff_lt, Int64.lt_iff_toInt_lt, Int64.le_iff_toInt_le, ← Int64.toInt_inj] at h ⊢
    split at h <;> (try split at h) <;> first | omega | (simp at h; try omega) | (exfalso; revert h; decide)
theorem fr_lgt (hx : p.tables.exec = Jvm.exec) (hb : c.code = cc) {x y : Int64} {off : Int} {tgt : Nat} (h1 : decode cc pc = .ok (.lcmp, 1)) (h2 : decode cc (pc + 1) = .ok (.ifCond .gt off, 3)) (ht : ((pc + 1 : Nat) : Int) + off = (tgt : Int))
    (kt : y < x → W p l e R s m args below meth c H locs cells slots Q (F0 m tgt ls rest)) (kf : ¬ y < x → W p l e R s m args below meth c H locs cells slots Q (F0 m (pc + 4) ls rest)) : W p l e R s m args below meth c H locs cells slots Q (F0 m pc ls (.long y :: .long x :: rest)) := by
  refine W.lcmp hx hb h1 (lv_if_gt hx hb h2 ht (fun h => kt ?_) (fun h => kf ?_)) <;>
  · unfold lg_cmp at h
    simp only [gt_iff_lt, Int64.lt_iff_toInt_lt, Int64.le_iff_toInt_le, ← Int64.toInt_inj] at h ⊢
    split at h <;> (try split at h) <;> first | omega | (simp at h; try omega) | (exfalso; revert h; decide)
theorem fr_llt (hx : p.tables.exec = Jvm.exec) (hb : c.code = cc) {x y : Int64} {off : Int} {tgt : Nat} (h1 : decode cc pc = .ok (.lcmp, 1)) (h2 : decode cc (pc + 1) = .ok (.ifCond .lt off, 3)) (ht : ((pc + 1 : Nat) : Int) + off = (tgt : Int))
    (kt : x < y → W p l e R s m args below meth c H locs cells slots Q (F0 m tgt ls rest)) (kf : ¬ x < y → W p l e R s m args below meth c H locs cells slots Q (F0 m (pc + 4) ls rest)) : W p l e R s m args below meth c H locs cells slots Q (F0 m pc ls (.long y :: .long x :: rest)) := by
  refine W.lcmp hx hb h1 (lv_if_lt hx hb h2 ht (fun h => kt ?_) (fun h => kf ?_)) <;>
  · unfold lg_cmp at h
    simp only [gt_iff_lt, Int64.lt_iff_toInt_lt, Int64.le_iff_toInt_le, ← Int64.toInt_inj] at h ⊢
    split at h <;> (try split at h) <;> first | omega | (simp at h; try omega) | (exfalso; revert h; decide)
theorem fr_lge (hx : p.tables.exec = Jvm.exec) (hb : c.code = cc) {x y : Int64} {off : Int} {tgt : Nat} (h1 : decode cc pc = .ok (.lcmp, 1)) (h2 : decode cc (pc + 1) = .ok (.ifCond .ge off, 3)) (ht : ((pc + 1 : Nat) : Int) + off = (tgt : Int))
    (kt : y ≤ x → W p l e R s m args below meth c H locs cells slots Q (F0 m tgt ls rest)) (kf : ¬ y ≤ x → W p l e R s m args below meth c H locs cells slots Q (F0 m (pc + 4) ls rest)) : W p l e R s m args below meth c H locs cells slots Q (F0 m pc ls (.long y :: .long x :: rest)) := by
  refine W.lcmp hx hb h1 (lv_if_ge hx hb h2 ht (fun h => kt ?_) (fun h => kf ?_)) <;>
  · unfold lg_cmp at h
    simp only [gt_iff_lt, Int64.lt_iff_toInt_lt, Int64.le_iff_toInt_le, ← Int64.toInt_inj] at h ⊢
    split at h <;> (try split at h) <;> first | omega | (simp at h; try omega) | (exfalso; revert h; decide)
theorem fr_leq (hx : p.tables.exec = Jvm.exec) (hb : c.code = cc) {x y : Int64} {off : Int} {tgt : Nat} (h1 : decode cc pc = .ok (.lcmp, 1)) (h2 : decode cc (pc + 1) = .ok (.ifCond .eq off, 3)) (ht : ((pc + 1 : Nat) : Int) + off = (tgt : Int))
    (kt : x = y → W p l e R s m args below meth c H locs cells slots Q (F0 m tgt ls rest)) (kf : ¬ x = y → W p l e R s m args below meth c H locs cells slots Q (F0 m (pc + 4) ls rest)) : W p l e R s m args below meth c H locs cells slots Q (F0 m pc ls (.long y :: .long x :: rest)) := by
  refine W.lcmp hx hb h1 (lv_if_eq hx hb h2 ht (fun h => kt ?_) (fun h => kf ?_)) <;>
  · unfold lg_cmp at h
    simp only [gt_iff_lt, Int64.lt_iff_toInt_lt, Int64.le_iff_toInt_le, ← Int64.toInt_inj] at h ⊢
    split at h <;> (try split at h) <;> first | omega | (simp at h; try omega) | (exfalso; revert h; decide)
theorem fr_lne (hx : p.tables.exec = Jvm.exec) (hb : c.code = cc) {x y : Int64} {off : Int} {tgt : Nat} (h1 : decode cc pc = .ok (.lcmp, 1)) (h2 : decode cc (pc + 1) = .ok (.ifCond .ne off, 3)) (ht : ((pc + 1 : Nat) : Int) + off = (tgt : Int))
    (kt : ¬ x = y → W p l e R s m args below meth c H locs cells slots Q (F0 m tgt ls rest)) (kf : x = y → W p l e R s m args below meth c H locs cells slots Q (F0 m (pc + 4) ls rest)) : W p l e R s m args below meth c H locs cells slots Q (F0 m pc ls (.long y :: .long x :: rest)) := by
  refine W.lcmp hx hb h1 (lv_if_ne hx hb h2 ht (fun h => kt ?_) (fun h => kf ?_)) <;>
  · unfold lg_cmp at h
    simp only [gt_iff_lt, Int64.lt_iff_toInt_lt, Int64.le_iff_toInt_le, ← Int64.toInt_inj] at h ⊢
    split at h <;> (try split at h) <;> first | omega | (simp at h; try omega) | (exfalso; revert h; decide)
/-- ends -/
theorem fr_iret {W0 : va_W} {v v' : Int32} {W1 : va_W} {rt : FieldType} (C : Cx p m c cc nL s args own D cI cJ) (hr : meth.sig.returnType = some rt) (hlocks : meth.locks = false) (w : Wd D A s.heap H locs ws) (hn : narrow rt (.int v') = .int v') (hv : v' = v) (hw : ws = W1) (hdg : decode cc pc = .ok (.ireturn, 1)) :
    W p l e R s m args below meth c H locs cells slots (MQ below (QI D W1 v A) args s cells slots A) (F0 m pc ls [.int v']) := by
  subst hw
  exact W.zret C.1 C.2.1 hr hn (fun t ht hW => ⟨⟨v', (), rfl, hv, by rw [ht]; exact w.1, w.2.1⟩, w.2.2.1.F ht⟩) w.2.2.1.2.2 hdg hlocks
theorem fr_lret {v v' : Int64} {W1 : va_W} (C : Cx p m c cc nL s args own D cI cJ) (hr : meth.sig.returnType = some .long) (hlocks : meth.locks = false) (w : Wd D A s.heap H locs ws) (hv : v' = v) (hw : ws = W1) (hdg : decode cc pc = .ok (.lreturn, 1)) :
    W p l e R s m args below meth c H locs cells slots (MQ below (QL D W1 v A) args s cells slots A) (F0 m pc ls [.long v']) := by
  subst hw
  exact W.lret C.1 C.2.1 hr (fun t ht hW => ⟨⟨v', (), rfl, hv, by rw [ht]; exact w.1, w.2.1⟩, w.2.2.1.F ht⟩) w.2.2.1.2.2 hdg hlocks
theorem fr_vret {W1 : va_W} (C : Cx p m c cc nL s args own D cI cJ) (hr : meth.sig.returnType = none) (hlocks : meth.locks = false) (w : Wd D A s.heap H locs ws) (hw : ws = W1) (hdg : decode cc pc = .ok (.return_, 1)) :
    W p l e R s m args below meth c H locs cells slots (MQ below (QV D W1 A) args s cells slots A) (F0 m pc ls []) := by
  subst hw
  exact W.vret C.1 C.2.1 hr (fun t ht hW => ⟨⟨(), rfl, trivial, by rw [ht]; exact w.1, w.2.1⟩, w.2.2.1.F ht⟩) w.2.2.1.2.2 hdg hlocks
end FR
end
section
/-! calls: the callee's cells are cut out by their places, and put back -/
def putW : va_W → List Nat → va_W → va_W
  | ws, i :: is, q :: qs => putW (ws.set i q) is qs
  | ws, _, _ => ws
theorem putW_get : ∀ (is : List Nat) (qs ws : va_W) (k : Nat) (q : Nat × va_E), is.length = qs.length → (putW ws is qs)[k]? = some q → (∃ j : Nat, is[j]? = some k ∧ qs[j]? = some q) ∨ (k ∉ is ∧ ws[k]? = some q)
  | [], qs, ws, k, q, hl, h => by
    cases qs with
    | nil => exact Or.inr ⟨List.not_mem_nil, h⟩
    | cons a b => cases hl
  | i :: is, [], ws, k, q, hl, h => by cases hl
  | i :: is, q0 :: qs, ws, k, q, hl, h => by
    have h' : (putW (ws.set i q0) is qs)[k]? = some q := h
    rcases putW_get is qs (ws.set i q0) k q (Nat.succ.inj hl) h' with ⟨j, h1, h2⟩ | ⟨h1, h2⟩
    · exact Or.inl ⟨j + 1, by simpa using h1, by simpa using h2⟩
    · by_cases hk : i = k
      · subst hk
        rw [List.getElem?_set] at h2
        simp only [if_true] at h2
        split at h2
        · exact Or.inl ⟨0, by simp, by simpa using h2⟩
        · cases h2
      · rw [List.getElem?_set_ne hk] at h2
        exact Or.inr ⟨fun hm => (List.mem_cons.mp hm).elim (fun e => hk e.symm) h1, h2⟩
theorem map_at {is : List Nat} {ws w : va_W} (hs : is.map (fun i => ws[i]?) = w.map some) {k : Nat} {q : Nat × va_E} (hq : w[k]? = some q) : ∃ i : Nat, is[k]? = some i ∧ ws[i]? = some q := by
  have h1 : (is.map (fun i => ws[i]?))[k]? = some (some q) := by rw [hs, List.getElem?_map, hq]; rfl
  rw [List.getElem?_map] at h1
  cases hi : is[k]? with
  | none => rw [hi] at h1; cases h1
  | some i => rw [hi] at h1; exact ⟨i, rfl, Option.some.inj h1⟩
theorem map_fst {W0 W1 : va_W} (hf : W1.map (fun q => q.1) = W0.map (fun q => q.1)) {j : Nat} {q : Nat × va_E} (h : W1[j]? = some q) : ∃ e : va_E, W0[j]? = some (q.1, e) := by
  have h1 : (W1.map (fun q => q.1))[j]? = some q.1 := by rw [List.getElem?_map, h]; rfl
  rw [hf, List.getElem?_map] at h1
  cases hi : W0[j]? with
  | none => rw [hi] at h1; cases h1
  | some r => rw [hi] at h1; exact ⟨r.2, by have : r.1 = q.1 := Option.some.inj h1; rw [← this]⟩
theorem putW_ok {D : va_G} {A : Nat → Prop} {ws W0 W1 : va_W} {H H1 : Heap} (hP : va_P D vwCl ws H) (hD : va_D A ws) (isC : List Nat) (h1 : isC.map (fun i => ws[i]?) = W0.map some) (hf : W1.map (fun q => q.1) = W0.map (fun q => q.1))
    (hk : ∀ q : Nat, q < H.size → ¬ va_A W0 H.size q → H1[q]? = H[q]?) (hP1 : va_P D vwCl W1 H1) : va_P D vwCl (putW ws isC W1) H1 ∧ va_D A (putW ws isC W1) := by
  have hlen : isC.length = W1.length := by
    have a1 := congrArg List.length h1
    have a2 := congrArg List.length hf
    simp only [List.length_map] at a1 a2
    omega
  have same : ∀ (k : Nat) (q : Nat × va_E), (putW ws isC W1)[k]? = some q → ∃ e : va_E, ws[k]? = some (q.1, e) := by
    intro k q hq
    rcases putW_get isC W1 ws k q hlen hq with ⟨j, g1, g2⟩ | ⟨-, g2⟩
    · obtain ⟨e, he⟩ := map_fst hf g2
      obtain ⟨i, g3, g4⟩ := map_at h1 he
      rw [g1] at g3
      cases g3
      exact ⟨e, g4⟩
    · exact ⟨q.2, g2⟩
  refine ⟨fun k q hq => ?_, fun i j x y hx hy hxy => ?_, fun k q hq => ?_⟩
  · rcases putW_get isC W1 ws k q hlen hq with ⟨j, g1, g2⟩ | ⟨g1, g2⟩
    · exact hP1 j q g2
    · have hlt := (hP k q g2).lt
      refine (hP k q g2).kept (hk q.1 hlt (fun h => ?_))
      rcases h with ⟨k2, e, h⟩ | h
      · obtain ⟨i, h3, h4⟩ := map_at h1 h
        have hij := hD.1 k i q (q.1, e) g2 h4 rfl
        subst hij
        exact g1 (List.mem_of_getElem? h3)
      · omega
  · obtain ⟨e1, a1⟩ := same i x hx
    obtain ⟨e2, a2⟩ := same j y hy
    exact hD.1 i j _ _ a1 a2 hxy
  · obtain ⟨e1, a1⟩ := same k q hq
    exact hD.2 k (q.1, e1) a1
def KV (C : String) (y : MethodName) (b : ByteArray) (n : Nat) (r : Option FieldType) (np : Nat) : Prop :=
  Cond.code y b n r ∈ wsL_law ∧ Cond.instanceMethod y ∈ wsL_law ∧ Cond.selects C y y ∈ wsL_law ∧ Cond.initialized y.cls ∈ wsL_law ∧ (y.cls ≠ "java/lang/invoke/MethodHandle" ∧ y.cls ≠ "java/lang/invoke/VarHandle" ∧ (parseMethodDescriptor y.desc).map (fun d => d.parameters.length) = some np)
def KS (y : MethodName) (b : ByteArray) (n : Nat) (r : Option FieldType) (np : Nat) : Prop :=
  Cond.code y b n r ∈ wsL_law ∧ Cond.static y ∈ wsL_law ∧ Cond.initialized y.cls ∈ wsL_law ∧ (y.cls ≠ "java/lang/invoke/MethodHandle" ∧ y.cls ≠ "java/lang/invoke/VarHandle" ∧ (parseMethodDescriptor y.desc).map (fun d => d.parameters.length) = some np)
def RO (n d : Nat) (R : Room) : Prop := d + 1 ≤ R.frames ∧ 8 + (n + 11) + 40 * d ≤ R.locals
section CR
variable {p : Program} {l : Launch} {e : Env} {R : Room} {s : State} {m : MethodId} {args : Array Value} {below : List Frame} {meth : Method} {c : Code} {H : Heap} {locs : List Loc} {cells slots : Nat} {Q : State → Prop}
variable {cc : ByteArray} {pc nL : Nat} {ls : Array Slot} {rest st0 : List Value} {D : va_G} {A : Nat → Prop} {ws : va_W} {own : String} {cI cJ : ClassId}
variable {C : String} {y : MethodName} {b : ByteArray} {n np d idx bb ci N : Nat} {r : Option FieldType} {T : u_T} {fs As : List Value} {W0 W1 ws' : va_W}
theorem fr_runV {Qc : (Nat → Prop) → Array Value → State → Outcome → State → Prop} (C0 : Cx p m c cc nL s args own D cI cJ) (w : Wd D A s.heap H locs ws) (K : KV C y b n r np) (hlk : Cond.methodLink own idx y ∈ wsL_law)
    (hM : ∀ sz, Met l y (cw y b n r) (rl d) (va_Pc (.ref bb :: As) (PRE D cI cJ W0 sz)) (Qc (va_A W0 sz)) 0 0 (va_A W0 sz)) (hR : RO n d R) (hcs : cells ≤ R.cells ∧ slots ≤ R.slots) (isC : List Nat) (h1 : isC.map (fun i => ws[i]?) = W0.map some) (hnd : va_nd isC = true)
    (hc : vwCl[ci]? = some (C, T, N)) (hrec : W0[0]? = some (bb, .inr (ci, fs))) (hn : As.length = np) (hls : ls.size = nL) (hst : st0 = As.reverse ++ .ref bb :: rest) (hroom : (rest.map fun v => v.category).sum ≤ 8) (hdg : decode cc pc = .ok (.invokevirtual idx, 3)) :
    va_Run p l e R s m args below meth c H locs cells slots 0 0 (F0 m pc ls st0) rest (Qc (va_A W0 H.size) (Value.ref bb :: As).toArray) (va_A W0 H.size) := by
  obtain ⟨hx, hb, hml, hown, hts, hK⟩ := C0
  obtain ⟨k1, k2, k3, k4, k5⟩ := K
  have hP0 : va_P D vwCl W0 H := fun k q hq => by
    obtain ⟨i, -, g⟩ := map_at h1 hq
    exact w.1 i q g
  have hD0 : va_D (fun _ => True) W0 := (w.2.1.sub isC hnd h1).weaken (fun _ _ _ _ => trivial)
  exact va_runV (As := As) (rest := rest) ⟨hx, hb, hml, hown, hts⟩ (hM H.size) ⟨callB_of np hts (uw_cw k1) rfl rfl rfl (hts _ k4) (hts _ hlk) k5 hR, hts _ k2, hts _ k3⟩
    ⟨PRE.blind, va_recv hK.1 hP0 hc hrec, fun U hU hW => ⟨rfl, by rw [hU], by rw [hU]; exact hP0, hK.warm hW, hD0⟩⟩ rfl hn hls hst (lv_room hroom) hdg hcs
theorem fr_runS {Qc : (Nat → Prop) → Array Value → State → Outcome → State → Prop} (C0 : Cx p m c cc nL s args own D cI cJ) (w : Wd D A s.heap H locs ws) (K : KS y b n r np) (hlk : Cond.methodLink own idx y ∈ wsL_law)
    (hM : ∀ sz, Met l y (cw y b n r) (rl d) (va_Pc As (PRE D cI cJ W0 sz)) (Qc (va_A W0 sz)) 0 0 (va_A W0 sz)) (hR : RO n d R) (hcs : cells ≤ R.cells ∧ slots ≤ R.slots) (isC : List Nat) (h1 : isC.map (fun i => ws[i]?) = W0.map some) (hnd : va_nd isC = true)
    (hn : As.length = np) (hls : ls.size = nL) (hst : st0 = As.reverse ++ rest) (hroom : (rest.map fun v => v.category).sum ≤ 8) (hdg : decode cc pc = .ok (.invokestatic idx, 3)) :
    va_Run p l e R s m args below meth c H locs cells slots 0 0 (F0 m pc ls st0) rest (Qc (va_A W0 H.size) As.toArray) (va_A W0 H.size) := by
  obtain ⟨hx, hb, hml, hown, hts, hK⟩ := C0
  obtain ⟨k1, k2, k4, k5⟩ := K
  have hP0 : va_P D vwCl W0 H := fun k q hq => by
    obtain ⟨i, -, g⟩ := map_at h1 hq
    exact w.1 i q g
  have hD0 : va_D (fun _ => True) W0 := (w.2.1.sub isC hnd h1).weaken (fun _ _ _ _ => trivial)
  exact va_runS (As := As) (rest := rest) ⟨hx, hb, hml, hown, hts⟩ (hM H.size) ⟨callB_of np hts (uw_cw k1) rfl rfl rfl (hts _ k4) (hts _ hlk) k5 hR, hts _ k2⟩
    ⟨PRE.blind, fun U hU hW => ⟨rfl, by rw [hU], by rw [hU]; exact hP0, hK.warm hW, hD0⟩⟩ rfl hn hls hst (lv_room hroom) hdg hcs
theorem fr_runN {Qc : (Nat → Prop) → Array Value → State → Outcome → State → Prop} (C0 : Cx p m c cc nL s args own D cI cJ) (w : Wd D A s.heap H locs ws) (K : KS y b n r np) (hlk : va_Nw (.methodLinkNest own idx y "MudShares") s)
    (hM : ∀ sz, Met l y (cw y b n r) (rl d) (va_Pc As (PRE D cI cJ W0 sz)) (Qc (va_A W0 sz)) 0 0 (va_A W0 sz)) (hR : RO n d R) (hcs : cells ≤ R.cells ∧ slots ≤ R.slots) (isC : List Nat) (h1 : isC.map (fun i => ws[i]?) = W0.map some) (hnd : va_nd isC = true)
    (hn : As.length = np) (hls : ls.size = nL) (hst : st0 = As.reverse ++ rest) (hroom : (rest.map fun v => v.category).sum ≤ 8) (hdg : decode cc pc = .ok (.invokestatic idx, 3)) :
    va_Run p l e R s m args below meth c H locs cells slots 0 0 (F0 m pc ls st0) rest (Qc (va_A W0 H.size) As.toArray) (va_A W0 H.size) := by
  obtain ⟨hx, hb, hml, hown, hts, hK⟩ := C0
  obtain ⟨k1, k2, k4, k5⟩ := K
  have hP0 : va_P D vwCl W0 H := fun k q hq => by
    obtain ⟨i, -, g⟩ := map_at h1 hq
    exact w.1 i q g
  have hD0 : va_D (fun _ => True) W0 := (w.2.1.sub isC hnd h1).weaken (fun _ _ _ _ => trivial)
  exact va_runSN (As := As) (rest := rest) ⟨hx, hb, hml, hown, hts⟩ (hM H.size) ⟨va_cnB np hts (uw_cw k1) rfl rfl rfl hlk (hts _ k4) k5 hR, hts _ k2, trivial⟩
    ⟨PRE.blind, fun U hU hW => ⟨rfl, by rw [hU], by rw [hU]; exact hP0, hK.warm hW, hD0⟩⟩ rfl hn hls hst (lv_room hroom) hdg hcs
theorem fr_callIV {rt : FieldType} {v : Int32} (C0 : Cx p m c cc nL s args own D cI cJ) (w : Wd D A s.heap H locs ws) (K : KV C y b n (some rt) np) (hlk : Cond.methodLink own idx y ∈ wsL_law)
    (hM : CI l y b n rt d D cI cJ (.ref bb :: As) W0 W1 v) (hR : RO n d R) (hcs : cells ≤ R.cells ∧ slots ≤ R.slots) (isC : List Nat) (h1 : isC.map (fun i => ws[i]?) = W0.map some) (hnd : va_nd isC = true) (hf : W1.map (fun q => q.1) = W0.map (fun q => q.1)) (hw' : putW ws isC W1 = ws')
    (hc : vwCl[ci]? = some (C, T, N)) (hrec : W0[0]? = some (bb, .inr (ci, fs))) (hn : As.length = np) (hls : ls.size = nL) (hst : st0 = As.reverse ++ .ref bb :: rest) (hroom : (rest.map fun v => v.category).sum ≤ 8) (hdg : decode cc pc = .ok (.invokevirtual idx, 3))
    (kk : ∀ (H : Heap) (locs : List Loc), Wd D A s.heap H locs ws' → W p l e R s m args below meth c H locs cells slots Q (F0 m (pc + 3) ls (.int v :: rest))) : W p l e R s m args below meth c H locs cells slots Q (F0 m pc ls st0) := by
  have hF := va_free w.2.1 w.2.2.1 w.2.2.2 isC h1
  refine va_calli (post := (fun (r : Int32) (_ : Unit) => r = v)) (B := QB D W1 (va_A W0 H.size)) (A1 := va_A W0 H.size) (fr_runV (Qc := (fun A => QI D W1 v A)) C0 w K hlk hM hR hcs isC h1 hnd hc hrec hn hls hst hroom hdg) w.2.2.1 (fun q _ h => hF q h) hF (fun r u t H1 locs1 ht hvm hw hB hz hk hS => ?_)
  subst hw
  have hB1 : va_P D vwCl W1 t.heap := hB.1
  rw [ht] at hB1
  obtain ⟨g1, g2⟩ := putW_ok w.1 w.2.1 isC h1 hf hk hB1
  rw [hw'] at g1 g2
  exact kk H1 locs1 ⟨g1, g2, hS, w.2.2.2⟩
theorem fr_callLV {v : Int64} (C0 : Cx p m c cc nL s args own D cI cJ) (w : Wd D A s.heap H locs ws) (K : KV C y b n (some .long) np) (hlk : Cond.methodLink own idx y ∈ wsL_law)
    (hM : CL l y b n d D cI cJ (.ref bb :: As) W0 W1 v) (hR : RO n d R) (hcs : cells ≤ R.cells ∧ slots ≤ R.slots) (isC : List Nat) (h1 : isC.map (fun i => ws[i]?) = W0.map some) (hnd : va_nd isC = true) (hf : W1.map (fun q => q.1) = W0.map (fun q => q.1)) (hw' : putW ws isC W1 = ws')
    (hc : vwCl[ci]? = some (C, T, N)) (hrec : W0[0]? = some (bb, .inr (ci, fs))) (hn : As.length = np) (hls : ls.size = nL) (hst : st0 = As.reverse ++ .ref bb :: rest) (hroom : (rest.map fun v => v.category).sum ≤ 8) (hdg : decode cc pc = .ok (.invokevirtual idx, 3))
    (kk : ∀ (H : Heap) (locs : List Loc), Wd D A s.heap H locs ws' → W p l e R s m args below meth c H locs cells slots Q (F0 m (pc + 3) ls (.long v :: rest))) : W p l e R s m args below meth c H locs cells slots Q (F0 m pc ls st0) := by
  have hF := va_free w.2.1 w.2.2.1 w.2.2.2 isC h1
  refine va_calll (post := (fun (r : Int64) (_ : Unit) => r = v)) (B := QB D W1 (va_A W0 H.size)) (A1 := va_A W0 H.size) (fr_runV (Qc := (fun A => QL D W1 v A)) C0 w K hlk hM hR hcs isC h1 hnd hc hrec hn hls hst hroom hdg) w.2.2.1 (fun q _ h => hF q h) hF (fun r u t H1 locs1 ht hvm hw hB hz hk hS => ?_)
  subst hw
  have hB1 : va_P D vwCl W1 t.heap := hB.1
  rw [ht] at hB1
  obtain ⟨g1, g2⟩ := putW_ok w.1 w.2.1 isC h1 hf hk hB1
  rw [hw'] at g1 g2
  exact kk H1 locs1 ⟨g1, g2, hS, w.2.2.2⟩
theorem fr_callVV (C0 : Cx p m c cc nL s args own D cI cJ) (w : Wd D A s.heap H locs ws) (K : KV C y b n none np) (hlk : Cond.methodLink own idx y ∈ wsL_law)
    (hM : CV l y b n d D cI cJ (.ref bb :: As) W0 W1) (hR : RO n d R) (hcs : cells ≤ R.cells ∧ slots ≤ R.slots) (isC : List Nat) (h1 : isC.map (fun i => ws[i]?) = W0.map some) (hnd : va_nd isC = true) (hf : W1.map (fun q => q.1) = W0.map (fun q => q.1)) (hw' : putW ws isC W1 = ws')
    (hc : vwCl[ci]? = some (C, T, N)) (hrec : W0[0]? = some (bb, .inr (ci, fs))) (hn : As.length = np) (hls : ls.size = nL) (hst : st0 = As.reverse ++ .ref bb :: rest) (hroom : (rest.map fun v => v.category).sum ≤ 8) (hdg : decode cc pc = .ok (.invokevirtual idx, 3))
    (kk : ∀ (H : Heap) (locs : List Loc), Wd D A s.heap H locs ws' → W p l e R s m args below meth c H locs cells slots Q (F0 m (pc + 3) ls rest)) : W p l e R s m args below meth c H locs cells slots Q (F0 m pc ls st0) := by
  have hF := va_free w.2.1 w.2.2.1 w.2.2.2 isC h1
  refine va_callv (post := (fun (_ : Unit) => True)) (B := QB D W1 (va_A W0 H.size)) (A1 := va_A W0 H.size) (fr_runV (Qc := (fun A => QV D W1 A)) C0 w K hlk hM hR hcs isC h1 hnd hc hrec hn hls hst hroom hdg) w.2.2.1 (fun q _ h => hF q h) hF (fun u t H1 locs1 ht hvm hw hB hz hk hS => ?_)
  have hB1 : va_P D vwCl W1 t.heap := hB.1
  rw [ht] at hB1
  obtain ⟨g1, g2⟩ := putW_ok w.1 w.2.1 isC h1 hf hk hB1
  rw [hw'] at g1 g2
  exact kk H1 locs1 ⟨g1, g2, hS, w.2.2.2⟩
theorem fr_callIS {rt : FieldType} {v : Int32} (C0 : Cx p m c cc nL s args own D cI cJ) (w : Wd D A s.heap H locs ws) (K : KS y b n (some rt) np) (hlk : Cond.methodLink own idx y ∈ wsL_law)
    (hM : CI l y b n rt d D cI cJ As W0 W1 v) (hR : RO n d R) (hcs : cells ≤ R.cells ∧ slots ≤ R.slots) (isC : List Nat) (h1 : isC.map (fun i => ws[i]?) = W0.map some) (hnd : va_nd isC = true) (hf : W1.map (fun q => q.1) = W0.map (fun q => q.1)) (hw' : putW ws isC W1 = ws')
    (hn : As.length = np) (hls : ls.size = nL) (hst : st0 = As.reverse ++ rest) (hroom : (rest.map fun v => v.category).sum ≤ 8) (hdg : decode cc pc = .ok (.invokestatic idx, 3))
    (kk : ∀ (H : Heap) (locs : List Loc), Wd D A s.heap H locs ws' → W p l e R s m args below meth c H locs cells slots Q (F0 m (pc + 3) ls (.int v :: rest))) : W p l e R s m args below meth c H locs cells slots Q (F0 m pc ls st0) := by
  have hF := va_free w.2.1 w.2.2.1 w.2.2.2 isC h1
  refine va_calli (post := (fun (r : Int32) (_ : Unit) => r = v)) (B := QB D W1 (va_A W0 H.size)) (A1 := va_A W0 H.size) (fr_runS (Qc := (fun A => QI D W1 v A)) C0 w K hlk hM hR hcs isC h1 hnd hn hls hst hroom hdg) w.2.2.1 (fun q _ h => hF q h) hF (fun r u t H1 locs1 ht hvm hw hB hz hk hS => ?_)
  subst hw
  have hB1 : va_P D vwCl W1 t.heap := hB.1
  rw [ht] at hB1
  obtain ⟨g1, g2⟩ := putW_ok w.1 w.2.1 isC h1 hf hk hB1
  rw [hw'] at g1 g2
  exact kk H1 locs1 ⟨g1, g2, hS, w.2.2.2⟩
theorem fr_callLS {v : Int64} (C0 : Cx p m c cc nL s args own D cI cJ) (w : Wd D A s.heap H locs ws) (K : KS y b n (some .long) np) (hlk : Cond.methodLink own idx y ∈ wsL_law)
    (hM : CL l y b n d D cI cJ As W0 W1 v) (hR : RO n d R) (hcs : cells ≤ R.cells ∧ slots ≤ R.slots) (isC : List Nat) (h1 : isC.map (fun i => ws[i]?) = W0.map some) (hnd : va_nd isC = true) (hf : W1.map (fun q => q.1) = W0.map (fun q => q.1)) (hw' : putW ws isC W1 = ws')
    (hn : As.length = np) (hls : ls.size = nL) (hst : st0 = As.reverse ++ rest) (hroom : (rest.map fun v => v.category).sum ≤ 8) (hdg : decode cc pc = .ok (.invokestatic idx, 3))
    (kk : ∀ (H : Heap) (locs : List Loc), Wd D A s.heap H locs ws' → W p l e R s m args below meth c H locs cells slots Q (F0 m (pc + 3) ls (.long v :: rest))) : W p l e R s m args below meth c H locs cells slots Q (F0 m pc ls st0) := by
  have hF := va_free w.2.1 w.2.2.1 w.2.2.2 isC h1
  refine va_calll (post := (fun (r : Int64) (_ : Unit) => r = v)) (B := QB D W1 (va_A W0 H.size)) (A1 := va_A W0 H.size) (fr_runS (Qc := (fun A => QL D W1 v A)) C0 w K hlk hM hR hcs isC h1 hnd hn hls hst hroom hdg) w.2.2.1 (fun q _ h => hF q h) hF (fun r u t H1 locs1 ht hvm hw hB hz hk hS => ?_)
  subst hw
  have hB1 : va_P D vwCl W1 t.heap := hB.1
  rw [ht] at hB1
  obtain ⟨g1, g2⟩ := putW_ok w.1 w.2.1 isC h1 hf hk hB1
  rw [hw'] at g1 g2
  exact kk H1 locs1 ⟨g1, g2, hS, w.2.2.2⟩
theorem fr_callVS (C0 : Cx p m c cc nL s args own D cI cJ) (w : Wd D A s.heap H locs ws) (K : KS y b n none np) (hlk : Cond.methodLink own idx y ∈ wsL_law)
    (hM : CV l y b n d D cI cJ As W0 W1) (hR : RO n d R) (hcs : cells ≤ R.cells ∧ slots ≤ R.slots) (isC : List Nat) (h1 : isC.map (fun i => ws[i]?) = W0.map some) (hnd : va_nd isC = true) (hf : W1.map (fun q => q.1) = W0.map (fun q => q.1)) (hw' : putW ws isC W1 = ws')
    (hn : As.length = np) (hls : ls.size = nL) (hst : st0 = As.reverse ++ rest) (hroom : (rest.map fun v => v.category).sum ≤ 8) (hdg : decode cc pc = .ok (.invokestatic idx, 3))
    (kk : ∀ (H : Heap) (locs : List Loc), Wd D A s.heap H locs ws' → W p l e R s m args below meth c H locs cells slots Q (F0 m (pc + 3) ls rest)) : W p l e R s m args below meth c H locs cells slots Q (F0 m pc ls st0) := by
  have hF := va_free w.2.1 w.2.2.1 w.2.2.2 isC h1
  refine va_callv (post := (fun (_ : Unit) => True)) (B := QB D W1 (va_A W0 H.size)) (A1 := va_A W0 H.size) (fr_runS (Qc := (fun A => QV D W1 A)) C0 w K hlk hM hR hcs isC h1 hnd hn hls hst hroom hdg) w.2.2.1 (fun q _ h => hF q h) hF (fun u t H1 locs1 ht hvm hw hB hz hk hS => ?_)
  have hB1 : va_P D vwCl W1 t.heap := hB.1
  rw [ht] at hB1
  obtain ⟨g1, g2⟩ := putW_ok w.1 w.2.1 isC h1 hf hk hB1
  rw [hw'] at g1 g2
  exact kk H1 locs1 ⟨g1, g2, hS, w.2.2.2⟩
theorem fr_callIN {rt : FieldType} {v : Int32} (C0 : Cx p m c cc nL s args own D cI cJ) (w : Wd D A s.heap H locs ws) (K : KS y b n (some rt) np) (hlk : va_Nw (.methodLinkNest own idx y "MudShares") s)
    (hM : CI l y b n rt d D cI cJ As W0 W1 v) (hR : RO n d R) (hcs : cells ≤ R.cells ∧ slots ≤ R.slots) (isC : List Nat) (h1 : isC.map (fun i => ws[i]?) = W0.map some) (hnd : va_nd isC = true) (hf : W1.map (fun q => q.1) = W0.map (fun q => q.1)) (hw' : putW ws isC W1 = ws')
    (hn : As.length = np) (hls : ls.size = nL) (hst : st0 = As.reverse ++ rest) (hroom : (rest.map fun v => v.category).sum ≤ 8) (hdg : decode cc pc = .ok (.invokestatic idx, 3))
    (kk : ∀ (H : Heap) (locs : List Loc), Wd D A s.heap H locs ws' → W p l e R s m args below meth c H locs cells slots Q (F0 m (pc + 3) ls (.int v :: rest))) : W p l e R s m args below meth c H locs cells slots Q (F0 m pc ls st0) := by
  have hF := va_free w.2.1 w.2.2.1 w.2.2.2 isC h1
  refine va_calli (post := (fun (r : Int32) (_ : Unit) => r = v)) (B := QB D W1 (va_A W0 H.size)) (A1 := va_A W0 H.size) (fr_runN (Qc := (fun A => QI D W1 v A)) C0 w K hlk hM hR hcs isC h1 hnd hn hls hst hroom hdg) w.2.2.1 (fun q _ h => hF q h) hF (fun r u t H1 locs1 ht hvm hw hB hz hk hS => ?_)
  subst hw
  have hB1 : va_P D vwCl W1 t.heap := hB.1
  rw [ht] at hB1
  obtain ⟨g1, g2⟩ := putW_ok w.1 w.2.1 isC h1 hf hk hB1
  rw [hw'] at g1 g2
  exact kk H1 locs1 ⟨g1, g2, hS, w.2.2.2⟩
theorem fr_callLN {v : Int64} (C0 : Cx p m c cc nL s args own D cI cJ) (w : Wd D A s.heap H locs ws) (K : KS y b n (some .long) np) (hlk : va_Nw (.methodLinkNest own idx y "MudShares") s)
    (hM : CL l y b n d D cI cJ As W0 W1 v) (hR : RO n d R) (hcs : cells ≤ R.cells ∧ slots ≤ R.slots) (isC : List Nat) (h1 : isC.map (fun i => ws[i]?) = W0.map some) (hnd : va_nd isC = true) (hf : W1.map (fun q => q.1) = W0.map (fun q => q.1)) (hw' : putW ws isC W1 = ws')
    (hn : As.length = np) (hls : ls.size = nL) (hst : st0 = As.reverse ++ rest) (hroom : (rest.map fun v => v.category).sum ≤ 8) (hdg : decode cc pc = .ok (.invokestatic idx, 3))
    (kk : ∀ (H : Heap) (locs : List Loc), Wd D A s.heap H locs ws' → W p l e R s m args below meth c H locs cells slots Q (F0 m (pc + 3) ls (.long v :: rest))) : W p l e R s m args below meth c H locs cells slots Q (F0 m pc ls st0) := by
  have hF := va_free w.2.1 w.2.2.1 w.2.2.2 isC h1
  refine va_calll (post := (fun (r : Int64) (_ : Unit) => r = v)) (B := QB D W1 (va_A W0 H.size)) (A1 := va_A W0 H.size) (fr_runN (Qc := (fun A => QL D W1 v A)) C0 w K hlk hM hR hcs isC h1 hnd hn hls hst hroom hdg) w.2.2.1 (fun q _ h => hF q h) hF (fun r u t H1 locs1 ht hvm hw hB hz hk hS => ?_)
  subst hw
  have hB1 : va_P D vwCl W1 t.heap := hB.1
  rw [ht] at hB1
  obtain ⟨g1, g2⟩ := putW_ok w.1 w.2.1 isC h1 hf hk hB1
  rw [hw'] at g1 g2
  exact kk H1 locs1 ⟨g1, g2, hS, w.2.2.2⟩
theorem fr_callVN (C0 : Cx p m c cc nL s args own D cI cJ) (w : Wd D A s.heap H locs ws) (K : KS y b n none np) (hlk : va_Nw (.methodLinkNest own idx y "MudShares") s)
    (hM : CV l y b n d D cI cJ As W0 W1) (hR : RO n d R) (hcs : cells ≤ R.cells ∧ slots ≤ R.slots) (isC : List Nat) (h1 : isC.map (fun i => ws[i]?) = W0.map some) (hnd : va_nd isC = true) (hf : W1.map (fun q => q.1) = W0.map (fun q => q.1)) (hw' : putW ws isC W1 = ws')
    (hn : As.length = np) (hls : ls.size = nL) (hst : st0 = As.reverse ++ rest) (hroom : (rest.map fun v => v.category).sum ≤ 8) (hdg : decode cc pc = .ok (.invokestatic idx, 3))
    (kk : ∀ (H : Heap) (locs : List Loc), Wd D A s.heap H locs ws' → W p l e R s m args below meth c H locs cells slots Q (F0 m (pc + 3) ls rest)) : W p l e R s m args below meth c H locs cells slots Q (F0 m pc ls st0) := by
  have hF := va_free w.2.1 w.2.2.1 w.2.2.2 isC h1
  refine va_callv (post := (fun (_ : Unit) => True)) (B := QB D W1 (va_A W0 H.size)) (A1 := va_A W0 H.size) (fr_runN (Qc := (fun A => QV D W1 A)) C0 w K hlk hM hR hcs isC h1 hnd hn hls hst hroom hdg) w.2.2.1 (fun q _ h => hF q h) hF (fun u t H1 locs1 ht hvm hw hB hz hk hS => ?_)
  have hB1 : va_P D vwCl W1 t.heap := hB.1
  rw [ht] at hB1
  obtain ⟨g1, g2⟩ := putW_ok w.1 w.2.1 isC h1 hf hk hB1
  rw [hw'] at g1 g2
  exact kk H1 locs1 ⟨g1, g2, hS, w.2.2.2⟩
end CR
end
section
theorem ck_1 : ∀ w ∈ wsL_law_r1, w ∈ wsL_law := fun _ h => (List.mem_append_left _ (List.mem_append_left _ (List.mem_append_left _ (List.mem_append_left _ (List.mem_append_left _ (List.mem_append_left _ (List.mem_append_left _ (List.mem_append_left _ (List.mem_append_left _ (List.mem_append_left _ h))))))))))
theorem ck_2 : ∀ w ∈ wsL_law_r2, w ∈ wsL_law := fun _ h => (List.mem_append_left _ (List.mem_append_left _ (List.mem_append_left _ (List.mem_append_left _ (List.mem_append_left _ (List.mem_append_left _ (List.mem_append_left _ (List.mem_append_left _ (List.mem_append_left _ (List.mem_append_right _ (List.mem_append_left _ h)))))))))))
theorem ck_3 : ∀ w ∈ wsL_law_r3, w ∈ wsL_law := fun _ h => (List.mem_append_left _ (List.mem_append_left _ (List.mem_append_left _ (List.mem_append_left _ (List.mem_append_left _ (List.mem_append_left _ (List.mem_append_left _ (List.mem_append_left _ (List.mem_append_left _ (List.mem_append_right _ (List.mem_append_right _ (List.mem_append_left _ h))))))))))))
theorem ck_4 : ∀ w ∈ wsL_law_r4, w ∈ wsL_law := fun _ h => (List.mem_append_left _ (List.mem_append_left _ (List.mem_append_left _ (List.mem_append_left _ (List.mem_append_left _ (List.mem_append_left _ (List.mem_append_left _ (List.mem_append_left _ (List.mem_append_left _ (List.mem_append_right _ (List.mem_append_right _ (List.mem_append_right _ (List.mem_append_left _ h)))))))))))))
theorem ck_5 : ∀ w ∈ wsL_law_r5, w ∈ wsL_law := fun _ h => (List.mem_append_left _ (List.mem_append_left _ (List.mem_append_left _ (List.mem_append_left _ (List.mem_append_left _ (List.mem_append_left _ (List.mem_append_left _ (List.mem_append_left _ (List.mem_append_left _ (List.mem_append_right _ (List.mem_append_right _ (List.mem_append_right _ (List.mem_append_right _ (List.mem_append_left _ h))))))))))))))
theorem ck_6 : ∀ w ∈ wsL_law_r6, w ∈ wsL_law := fun _ h => (List.mem_append_left _ (List.mem_append_left _ (List.mem_append_left _ (List.mem_append_left _ (List.mem_append_left _ (List.mem_append_left _ (List.mem_append_left _ (List.mem_append_left _ (List.mem_append_left _ (List.mem_append_right _ (List.mem_append_right _ (List.mem_append_right _ (List.mem_append_right _ (List.mem_append_right _ (List.mem_append_left _ h)))))))))))))))
theorem ck_7 : ∀ w ∈ wsL_law_r7, w ∈ wsL_law := fun _ h => (List.mem_append_left _ (List.mem_append_left _ (List.mem_append_left _ (List.mem_append_left _ (List.mem_append_left _ (List.mem_append_left _ (List.mem_append_left _ (List.mem_append_left _ (List.mem_append_left _ (List.mem_append_right _ (List.mem_append_right _ (List.mem_append_right _ (List.mem_append_right _ (List.mem_append_right _ (List.mem_append_right _ (List.mem_append_left _ h))))))))))))))))
theorem ck_8 : ∀ w ∈ wsL_law_r8, w ∈ wsL_law := fun _ h => (List.mem_append_left _ (List.mem_append_left _ (List.mem_append_left _ (List.mem_append_left _ (List.mem_append_left _ (List.mem_append_left _ (List.mem_append_left _ (List.mem_append_left _ (List.mem_append_left _ (List.mem_append_right _ (List.mem_append_right _ (List.mem_append_right _ (List.mem_append_right _ (List.mem_append_right _ (List.mem_append_right _ (List.mem_append_right _ (List.mem_append_left _ h)))))))))))))))))
theorem ck_9 : ∀ w ∈ wsL_law_r9, w ∈ wsL_law := fun _ h => (List.mem_append_left _ (List.mem_append_left _ (List.mem_append_left _ (List.mem_append_left _ (List.mem_append_left _ (List.mem_append_left _ (List.mem_append_left _ (List.mem_append_left _ (List.mem_append_left _ (List.mem_append_right _ (List.mem_append_right _ (List.mem_append_right _ (List.mem_append_right _ (List.mem_append_right _ (List.mem_append_right _ (List.mem_append_right _ (List.mem_append_right _ (List.mem_append_left _ h))))))))))))))))))
theorem ck_10 : ∀ w ∈ wsL_law_r10, w ∈ wsL_law := fun _ h => (List.mem_append_left _ (List.mem_append_left _ (List.mem_append_left _ (List.mem_append_left _ (List.mem_append_left _ (List.mem_append_left _ (List.mem_append_left _ (List.mem_append_left _ (List.mem_append_left _ (List.mem_append_right _ (List.mem_append_right _ (List.mem_append_right _ (List.mem_append_right _ (List.mem_append_right _ (List.mem_append_right _ (List.mem_append_right _ (List.mem_append_right _ (List.mem_append_right _ (List.mem_append_left _ h)))))))))))))))))))
theorem ck_11 : ∀ w ∈ wsL_law_r11, w ∈ wsL_law := fun _ h => (List.mem_append_left _ (List.mem_append_left _ (List.mem_append_left _ (List.mem_append_left _ (List.mem_append_left _ (List.mem_append_left _ (List.mem_append_left _ (List.mem_append_left _ (List.mem_append_left _ (List.mem_append_right _ (List.mem_append_right _ (List.mem_append_right _ (List.mem_append_right _ (List.mem_append_right _ (List.mem_append_right _ (List.mem_append_right _ (List.mem_append_right _ (List.mem_append_right _ (List.mem_append_right _ (List.mem_append_left _ h))))))))))))))))))))
theorem ck_12 : ∀ w ∈ wsL_law_r12, w ∈ wsL_law := fun _ h => (List.mem_append_left _ (List.mem_append_left _ (List.mem_append_left _ (List.mem_append_left _ (List.mem_append_left _ (List.mem_append_left _ (List.mem_append_left _ (List.mem_append_left _ (List.mem_append_left _ (List.mem_append_right _ (List.mem_append_right _ (List.mem_append_right _ (List.mem_append_right _ (List.mem_append_right _ (List.mem_append_right _ (List.mem_append_right _ (List.mem_append_right _ (List.mem_append_right _ (List.mem_append_right _ (List.mem_append_right _ (List.mem_append_left _ h)))))))))))))))))))))
theorem ck_13 : ∀ w ∈ wsL_law_r13, w ∈ wsL_law := fun _ h => (List.mem_append_left _ (List.mem_append_left _ (List.mem_append_left _ (List.mem_append_left _ (List.mem_append_left _ (List.mem_append_left _ (List.mem_append_left _ (List.mem_append_left _ (List.mem_append_left _ (List.mem_append_right _ (List.mem_append_right _ (List.mem_append_right _ (List.mem_append_right _ (List.mem_append_right _ (List.mem_append_right _ (List.mem_append_right _ (List.mem_append_right _ (List.mem_append_right _ (List.mem_append_right _ (List.mem_append_right _ (List.mem_append_right _ (List.mem_append_left _ h))))))))))))))))))))))
theorem ck_14 : ∀ w ∈ wsL_law_r14, w ∈ wsL_law := fun _ h => (List.mem_append_left _ (List.mem_append_left _ (List.mem_append_left _ (List.mem_append_left _ (List.mem_append_left _ (List.mem_append_left _ (List.mem_append_left _ (List.mem_append_left _ (List.mem_append_left _ (List.mem_append_right _ (List.mem_append_right _ (List.mem_append_right _ (List.mem_append_right _ (List.mem_append_right _ (List.mem_append_right _ (List.mem_append_right _ (List.mem_append_right _ (List.mem_append_right _ (List.mem_append_right _ (List.mem_append_right _ (List.mem_append_right _ (List.mem_append_right _ (List.mem_append_left _ h)))))))))))))))))))))))
theorem ck_15 : ∀ w ∈ wsL_law_r15, w ∈ wsL_law := fun _ h => (List.mem_append_left _ (List.mem_append_left _ (List.mem_append_left _ (List.mem_append_left _ (List.mem_append_left _ (List.mem_append_left _ (List.mem_append_left _ (List.mem_append_left _ (List.mem_append_left _ (List.mem_append_right _ (List.mem_append_right _ (List.mem_append_right _ (List.mem_append_right _ (List.mem_append_right _ (List.mem_append_right _ (List.mem_append_right _ (List.mem_append_right _ (List.mem_append_right _ (List.mem_append_right _ (List.mem_append_right _ (List.mem_append_right _ (List.mem_append_right _ (List.mem_append_right _ (List.mem_append_left _ h))))))))))))))))))))))))
theorem ck_16 : ∀ w ∈ wsL_law_r16, w ∈ wsL_law := fun _ h => (List.mem_append_left _ (List.mem_append_left _ (List.mem_append_left _ (List.mem_append_left _ (List.mem_append_left _ (List.mem_append_left _ (List.mem_append_left _ (List.mem_append_left _ (List.mem_append_left _ (List.mem_append_right _ (List.mem_append_right _ (List.mem_append_right _ (List.mem_append_right _ (List.mem_append_right _ (List.mem_append_right _ (List.mem_append_right _ (List.mem_append_right _ (List.mem_append_right _ (List.mem_append_right _ (List.mem_append_right _ (List.mem_append_right _ (List.mem_append_right _ (List.mem_append_right _ (List.mem_append_right _ (List.mem_append_left _ h)))))))))))))))))))))))))
theorem ck_17 : ∀ w ∈ wsL_law_r17, w ∈ wsL_law := fun _ h => (List.mem_append_left _ (List.mem_append_left _ (List.mem_append_left _ (List.mem_append_left _ (List.mem_append_left _ (List.mem_append_left _ (List.mem_append_left _ (List.mem_append_left _ (List.mem_append_left _ (List.mem_append_right _ (List.mem_append_right _ (List.mem_append_right _ (List.mem_append_right _ (List.mem_append_right _ (List.mem_append_right _ (List.mem_append_right _ (List.mem_append_right _ (List.mem_append_right _ (List.mem_append_right _ (List.mem_append_right _ (List.mem_append_right _ (List.mem_append_right _ (List.mem_append_right _ (List.mem_append_right _ (List.mem_append_right _ (List.mem_append_left _ h))))))))))))))))))))))))))
theorem ck_18 : ∀ w ∈ wsL_law_r18, w ∈ wsL_law := fun _ h => (List.mem_append_left _ (List.mem_append_left _ (List.mem_append_left _ (List.mem_append_left _ (List.mem_append_left _ (List.mem_append_left _ (List.mem_append_left _ (List.mem_append_left _ (List.mem_append_left _ (List.mem_append_right _ (List.mem_append_right _ (List.mem_append_right _ (List.mem_append_right _ (List.mem_append_right _ (List.mem_append_right _ (List.mem_append_right _ (List.mem_append_right _ (List.mem_append_right _ (List.mem_append_right _ (List.mem_append_right _ (List.mem_append_right _ (List.mem_append_right _ (List.mem_append_right _ (List.mem_append_right _ (List.mem_append_right _ (List.mem_append_right _ (List.mem_append_left _ h)))))))))))))))))))))))))))
theorem ck_19 : ∀ w ∈ wsL_law_r19, w ∈ wsL_law := fun _ h => (List.mem_append_left _ (List.mem_append_left _ (List.mem_append_left _ (List.mem_append_left _ (List.mem_append_left _ (List.mem_append_left _ (List.mem_append_left _ (List.mem_append_left _ (List.mem_append_left _ (List.mem_append_right _ (List.mem_append_right _ (List.mem_append_right _ (List.mem_append_right _ (List.mem_append_right _ (List.mem_append_right _ (List.mem_append_right _ (List.mem_append_right _ (List.mem_append_right _ (List.mem_append_right _ (List.mem_append_right _ (List.mem_append_right _ (List.mem_append_right _ (List.mem_append_right _ (List.mem_append_right _ (List.mem_append_right _ (List.mem_append_right _ (List.mem_append_right _ (List.mem_append_left _ h))))))))))))))))))))))))))))
theorem ck_20 : ∀ w ∈ wsL_law_r20, w ∈ wsL_law := fun _ h => (List.mem_append_left _ (List.mem_append_left _ (List.mem_append_left _ (List.mem_append_left _ (List.mem_append_left _ (List.mem_append_left _ (List.mem_append_left _ (List.mem_append_left _ (List.mem_append_left _ (List.mem_append_right _ (List.mem_append_right _ (List.mem_append_right _ (List.mem_append_right _ (List.mem_append_right _ (List.mem_append_right _ (List.mem_append_right _ (List.mem_append_right _ (List.mem_append_right _ (List.mem_append_right _ (List.mem_append_right _ (List.mem_append_right _ (List.mem_append_right _ (List.mem_append_right _ (List.mem_append_right _ (List.mem_append_right _ (List.mem_append_right _ (List.mem_append_right _ (List.mem_append_right _ (List.mem_append_left _ h)))))))))))))))))))))))))))))
theorem ck_21 : ∀ w ∈ wsL_law_r21, w ∈ wsL_law := fun _ h => (List.mem_append_left _ (List.mem_append_left _ (List.mem_append_left _ (List.mem_append_left _ (List.mem_append_left _ (List.mem_append_left _ (List.mem_append_left _ (List.mem_append_left _ (List.mem_append_left _ (List.mem_append_right _ (List.mem_append_right _ (List.mem_append_right _ (List.mem_append_right _ (List.mem_append_right _ (List.mem_append_right _ (List.mem_append_right _ (List.mem_append_right _ (List.mem_append_right _ (List.mem_append_right _ (List.mem_append_right _ (List.mem_append_right _ (List.mem_append_right _ (List.mem_append_right _ (List.mem_append_right _ (List.mem_append_right _ (List.mem_append_right _ (List.mem_append_right _ (List.mem_append_right _ (List.mem_append_right _ (List.mem_append_left _ h))))))))))))))))))))))))))))))
theorem ck_22 : ∀ w ∈ wsL_law_r22, w ∈ wsL_law := fun _ h => (List.mem_append_left _ (List.mem_append_left _ (List.mem_append_left _ (List.mem_append_left _ (List.mem_append_left _ (List.mem_append_left _ (List.mem_append_left _ (List.mem_append_left _ (List.mem_append_left _ (List.mem_append_right _ (List.mem_append_right _ (List.mem_append_right _ (List.mem_append_right _ (List.mem_append_right _ (List.mem_append_right _ (List.mem_append_right _ (List.mem_append_right _ (List.mem_append_right _ (List.mem_append_right _ (List.mem_append_right _ (List.mem_append_right _ (List.mem_append_right _ (List.mem_append_right _ (List.mem_append_right _ (List.mem_append_right _ (List.mem_append_right _ (List.mem_append_right _ (List.mem_append_right _ (List.mem_append_right _ (List.mem_append_right _ (List.mem_append_left _ h)))))))))))))))))))))))))))))))
theorem ck_23 : ∀ w ∈ wsL_law_r23, w ∈ wsL_law := fun _ h => (List.mem_append_left _ (List.mem_append_left _ (List.mem_append_left _ (List.mem_append_left _ (List.mem_append_left _ (List.mem_append_left _ (List.mem_append_left _ (List.mem_append_left _ (List.mem_append_left _ (List.mem_append_right _ (List.mem_append_right _ (List.mem_append_right _ (List.mem_append_right _ (List.mem_append_right _ (List.mem_append_right _ (List.mem_append_right _ (List.mem_append_right _ (List.mem_append_right _ (List.mem_append_right _ (List.mem_append_right _ (List.mem_append_right _ (List.mem_append_right _ (List.mem_append_right _ (List.mem_append_right _ (List.mem_append_right _ (List.mem_append_right _ (List.mem_append_right _ (List.mem_append_right _ (List.mem_append_right _ (List.mem_append_right _ (List.mem_append_right _ (List.mem_append_left _ h))))))))))))))))))))))))))))))))
theorem ck_24 : ∀ w ∈ wsL_law_r24, w ∈ wsL_law := fun _ h => (List.mem_append_left _ (List.mem_append_left _ (List.mem_append_left _ (List.mem_append_left _ (List.mem_append_left _ (List.mem_append_left _ (List.mem_append_left _ (List.mem_append_left _ (List.mem_append_left _ (List.mem_append_right _ (List.mem_append_right _ (List.mem_append_right _ (List.mem_append_right _ (List.mem_append_right _ (List.mem_append_right _ (List.mem_append_right _ (List.mem_append_right _ (List.mem_append_right _ (List.mem_append_right _ (List.mem_append_right _ (List.mem_append_right _ (List.mem_append_right _ (List.mem_append_right _ (List.mem_append_right _ (List.mem_append_right _ (List.mem_append_right _ (List.mem_append_right _ (List.mem_append_right _ (List.mem_append_right _ (List.mem_append_right _ (List.mem_append_right _ (List.mem_append_right _ (List.mem_append_left _ h)))))))))))))))))))))))))))))))))
theorem ck_25 : ∀ w ∈ wsL_law_r25, w ∈ wsL_law := fun _ h => (List.mem_append_left _ (List.mem_append_left _ (List.mem_append_left _ (List.mem_append_left _ (List.mem_append_left _ (List.mem_append_left _ (List.mem_append_left _ (List.mem_append_left _ (List.mem_append_left _ (List.mem_append_right _ (List.mem_append_right _ (List.mem_append_right _ (List.mem_append_right _ (List.mem_append_right _ (List.mem_append_right _ (List.mem_append_right _ (List.mem_append_right _ (List.mem_append_right _ (List.mem_append_right _ (List.mem_append_right _ (List.mem_append_right _ (List.mem_append_right _ (List.mem_append_right _ (List.mem_append_right _ (List.mem_append_right _ (List.mem_append_right _ (List.mem_append_right _ (List.mem_append_right _ (List.mem_append_right _ (List.mem_append_right _ (List.mem_append_right _ (List.mem_append_right _ (List.mem_append_right _ (List.mem_append_left _ h))))))))))))))))))))))))))))))))))
theorem ck_26 : ∀ w ∈ wsL_law_r26, w ∈ wsL_law := fun _ h => (List.mem_append_left _ (List.mem_append_left _ (List.mem_append_left _ (List.mem_append_left _ (List.mem_append_left _ (List.mem_append_left _ (List.mem_append_left _ (List.mem_append_left _ (List.mem_append_left _ (List.mem_append_right _ (List.mem_append_right _ (List.mem_append_right _ (List.mem_append_right _ (List.mem_append_right _ (List.mem_append_right _ (List.mem_append_right _ (List.mem_append_right _ (List.mem_append_right _ (List.mem_append_right _ (List.mem_append_right _ (List.mem_append_right _ (List.mem_append_right _ (List.mem_append_right _ (List.mem_append_right _ (List.mem_append_right _ (List.mem_append_right _ (List.mem_append_right _ (List.mem_append_right _ (List.mem_append_right _ (List.mem_append_right _ (List.mem_append_right _ (List.mem_append_right _ (List.mem_append_right _ (List.mem_append_right _ (List.mem_append_left _ h)))))))))))))))))))))))))))))))))))
theorem ck_27 : ∀ w ∈ wsL_law_r27, w ∈ wsL_law := fun _ h => (List.mem_append_left _ (List.mem_append_left _ (List.mem_append_left _ (List.mem_append_left _ (List.mem_append_left _ (List.mem_append_left _ (List.mem_append_left _ (List.mem_append_left _ (List.mem_append_left _ (List.mem_append_right _ (List.mem_append_right _ (List.mem_append_right _ (List.mem_append_right _ (List.mem_append_right _ (List.mem_append_right _ (List.mem_append_right _ (List.mem_append_right _ (List.mem_append_right _ (List.mem_append_right _ (List.mem_append_right _ (List.mem_append_right _ (List.mem_append_right _ (List.mem_append_right _ (List.mem_append_right _ (List.mem_append_right _ (List.mem_append_right _ (List.mem_append_right _ (List.mem_append_right _ (List.mem_append_right _ (List.mem_append_right _ (List.mem_append_right _ (List.mem_append_right _ (List.mem_append_right _ (List.mem_append_right _ (List.mem_append_right _ (List.mem_append_left _ h))))))))))))))))))))))))))))))))))))
theorem ck_28 : ∀ w ∈ wsL_law_r28, w ∈ wsL_law := fun _ h => (List.mem_append_left _ (List.mem_append_left _ (List.mem_append_left _ (List.mem_append_left _ (List.mem_append_left _ (List.mem_append_left _ (List.mem_append_left _ (List.mem_append_left _ (List.mem_append_left _ (List.mem_append_right _ (List.mem_append_right _ (List.mem_append_right _ (List.mem_append_right _ (List.mem_append_right _ (List.mem_append_right _ (List.mem_append_right _ (List.mem_append_right _ (List.mem_append_right _ (List.mem_append_right _ (List.mem_append_right _ (List.mem_append_right _ (List.mem_append_right _ (List.mem_append_right _ (List.mem_append_right _ (List.mem_append_right _ (List.mem_append_right _ (List.mem_append_right _ (List.mem_append_right _ (List.mem_append_right _ (List.mem_append_right _ (List.mem_append_right _ (List.mem_append_right _ (List.mem_append_right _ (List.mem_append_right _ (List.mem_append_right _ (List.mem_append_right _ (List.mem_append_left _ h)))))))))))))))))))))))))))))))))))))
theorem ck_29 : ∀ w ∈ wsL_law_r29, w ∈ wsL_law := fun _ h => (List.mem_append_left _ (List.mem_append_left _ (List.mem_append_left _ (List.mem_append_left _ (List.mem_append_left _ (List.mem_append_left _ (List.mem_append_left _ (List.mem_append_left _ (List.mem_append_left _ (List.mem_append_right _ (List.mem_append_right _ (List.mem_append_right _ (List.mem_append_right _ (List.mem_append_right _ (List.mem_append_right _ (List.mem_append_right _ (List.mem_append_right _ (List.mem_append_right _ (List.mem_append_right _ (List.mem_append_right _ (List.mem_append_right _ (List.mem_append_right _ (List.mem_append_right _ (List.mem_append_right _ (List.mem_append_right _ (List.mem_append_right _ (List.mem_append_right _ (List.mem_append_right _ (List.mem_append_right _ (List.mem_append_right _ (List.mem_append_right _ (List.mem_append_right _ (List.mem_append_right _ (List.mem_append_right _ (List.mem_append_right _ (List.mem_append_right _ (List.mem_append_right _ (List.mem_append_left _ h))))))))))))))))))))))))))))))))))))))
theorem ck_30 : ∀ w ∈ wsL_law_r30, w ∈ wsL_law := fun _ h => (List.mem_append_left _ (List.mem_append_left _ (List.mem_append_left _ (List.mem_append_left _ (List.mem_append_left _ (List.mem_append_left _ (List.mem_append_left _ (List.mem_append_left _ (List.mem_append_left _ (List.mem_append_right _ (List.mem_append_right _ (List.mem_append_right _ (List.mem_append_right _ (List.mem_append_right _ (List.mem_append_right _ (List.mem_append_right _ (List.mem_append_right _ (List.mem_append_right _ (List.mem_append_right _ (List.mem_append_right _ (List.mem_append_right _ (List.mem_append_right _ (List.mem_append_right _ (List.mem_append_right _ (List.mem_append_right _ (List.mem_append_right _ (List.mem_append_right _ (List.mem_append_right _ (List.mem_append_right _ (List.mem_append_right _ (List.mem_append_right _ (List.mem_append_right _ (List.mem_append_right _ (List.mem_append_right _ (List.mem_append_right _ (List.mem_append_right _ (List.mem_append_right _ (List.mem_append_right _ h))))))))))))))))))))))))))))))))))))))
theorem nb_of {v : Int32} (h : v = 0 ∨ v = 1) : narrow .boolean (.int v) = .int v := by rcases h with rfl | rfl <;> rfl
theorem vi_ctr {i : Int32} {k N n : Nat} (hk : i = nI k) (h : k < N) (hn : N ≤ n) (hs : n < 2 ^ 31) : vp_in i n := by rw [hk]; exact vp_in_nI (Nat.lt_of_lt_of_le h hn) hs
theorem vi_guard {x B : Int32} {n : Nat} (h1 : ¬ x < 0) (h2 : ¬ B ≤ x) (hB : B.toInt = n) : vp_in x n := by
  rw [vp_in_iff]
  rw [Int32.lt_iff_toInt_lt] at h1
  rw [Int32.le_iff_toInt_le] at h2
  have h0 : (0 : Int32).toInt = 0 := by decide
  omega
theorem kl_of {i B : Int32} {k N : Nat} (hk : i = nI k) (hkN : k ≤ N) (hB : B = nI N) (hN : N < 2 ^ 31) (c : ¬ B ≤ i) : k < N := by
  subst hk hB
  rcases Nat.lt_or_ge k N with h | h
  · exact h
  · exact absurd (nI_le h (by omega)) c
theorem kl_lt {i B : Int32} {k N : Nat} (hk : i = nI k) (hkN : k ≤ N) (hB : B = nI N) (hN : N < 2 ^ 31) (c : i < B) : k < N := by
  subst hk hB
  rcases Nat.lt_or_ge k N with h | h
  · exact h
  · exact absurd c (nI_nlt h (by omega))
theorem kl_gt {i B : Int32} {k N : Nat} (hk : i = nI k) (hkN : k ≤ N + 1) (hB : B = nI N) (hN : N + 1 < 2 ^ 31) (c : ¬ B < i) : k < N + 1 := by
  subst hk hB
  rcases Nat.lt_or_ge k (N + 1) with h | h
  · exact h
  · exact absurd (nI_lt (by omega : N < k) (by omega)) c

theorem sw_out3 {x : Int32} (c0 : ¬ x = 0) (c1 : ¬ x = 1) (c2 : ¬ x = 2) : x.toInt < 0 ∨ 2 < x.toInt := by
  simp only [← Int32.toInt_inj] at c0 c1 c2
  have e0 : (0 : Int32).toInt = 0 := by decide
  have e1 : (1 : Int32).toInt = 1 := by decide
  have e2 : (2 : Int32).toInt = 2 := by decide
  omega
theorem sw_out4 {x : Int32} (c0 : ¬ x = 0) (c1 : ¬ x = 1) (c2 : ¬ x = 2) (c3 : ¬ x = 3) : x.toInt < 0 ∨ 3 < x.toInt := by
  simp only [← Int32.toInt_inj] at c0 c1 c2 c3
  have e0 : (0 : Int32).toInt = 0 := by decide
  have e1 : (1 : Int32).toInt = 1 := by decide
  have e2 : (2 : Int32).toInt = 2 := by decide
  have e3 : (3 : Int32).toInt = 3 := by decide
  omega
theorem sw_out5 {x : Int32} (c0 : ¬ x = 0) (c1 : ¬ x = 1) (c2 : ¬ x = 2) (c3 : ¬ x = 3) (c4 : ¬ x = 4) : x.toInt < 0 ∨ 4 < x.toInt := by
  simp only [← Int32.toInt_inj] at c0 c1 c2 c3 c4
  have e0 : (0 : Int32).toInt = 0 := by decide
  have e1 : (1 : Int32).toInt = 1 := by decide
  have e2 : (2 : Int32).toInt = 2 := by decide
  have e3 : (3 : Int32).toInt = 3 := by decide
  have e4 : (4 : Int32).toInt = 4 := by decide
  omega
theorem ne0_gt {x : Int32} (h : ¬ x ≤ 0) : ¬ x = 0 := fun e => h (by rw [e]; decide)
theorem ne0_lgt {x : Int64} (h : ¬ x ≤ 0) : ¬ x = 0 := fun e => h (by rw [e]; decide)
end
section
theorem mw_21_21 : Cond.constant RJ6 265 (1431655765) ∈ wsL_law := ck_21 _ (List.mem_of_getElem? (i := 21) rfl)
theorem mw_21_22 : Cond.constant RJ6 266 (858993459) ∈ wsL_law := ck_21 _ (List.mem_of_getElem? (i := 22) rfl)
theorem mw_21_23 : Cond.constant RJ6 267 (252645135) ∈ wsL_law := ck_21 _ (List.mem_of_getElem? (i := 23) rfl)
def f_X6_isIn (st : Int32) (nu : Int32) : Int32 := (if ((st >>> (nu &&& 31)) &&& 1) = 1 then 1 else 0)
set_option maxRecDepth 100000 in
set_option maxHeartbeats 4000000 in
theorem c_X6_isIn (l : Launch) (D : va_G) (cI cJ : ClassId) (st : Int32) (nu : Int32) : CI l yX6_isIn cX6_isIn 2 .boolean 0 D cI cJ [.int st, .int nu] [] [] (f_X6_isIn st nu) := by
  generalize hr : f_X6_isIn st nu = r
  refine fr_entryI (by decide) rfl ?_
  intro p e s m args below meth c A Q H locs hQ C hret hlk w ls hl
  have hx := C.1
  have hb := C.2.1
  have hl : lv_has ls 2 [(0, .int st), (1, .int nu)] := hl
  have hr : (if ((st >>> (nu &&& 31)) &&& 1) = 1 then 1 else 0) = r := hr
  refine lv_iload_n hx hb dX6_isIn_0 rfl (lv_at hl 0 rfl) ?_
  refine lv_iload_n hx hb dX6_isIn_1 rfl (lv_at hl 1 rfl) ?_
  refine lv_ishr hx hb dX6_isIn_2 ?_
  refine lv_iconst (v := 1) hx hb dX6_isIn_3 (by decide) ?_
  refine lv_iand hx hb dX6_isIn_4 ?_
  refine lv_iconst (v := 1) hx hb dX6_isIn_5 (by decide) ?_
  refine lv_icmp_ne (tgt := 13) hx hb dX6_isIn_6 (by decide) (fun c6_1 => ?_) (fun c6_1 => ?_)
  · have hr := (if_neg c6_1).symm.trans hr
    refine lv_iconst (v := 0) hx hb dX6_isIn_13 (by decide) ?_
    subst hr hQ
    exact fr_iret (W0 := []) C hret hlk w rfl rfl rfl dX6_isIn_14
  · have hr := (if_pos c6_1).symm.trans hr
    refine lv_iconst (v := 1) hx hb dX6_isIn_9 (by decide) ?_
    refine lv_goto (tgt := 14) hx hb dX6_isIn_10 (by decide) ?_
    subst hr hQ
    exact fr_iret (W0 := []) C hret hlk w rfl rfl rfl dX6_isIn_14
theorem b_X6_isIn (st : Int32) (nu : Int32) : (f_X6_isIn st nu) = 0 ∨ (f_X6_isIn st nu) = 1 := by
  unfold f_X6_isIn
  try dsimp only
  repeat (first | exact Or.inl rfl | exact Or.inr rfl | split)
def f_X6_isHeld (v0 : Int32) : Int32 := (if v0 < 0 then 0 else (if 20 < v0 then 0 else 1))
set_option maxRecDepth 100000 in
set_option maxHeartbeats 4000000 in
theorem c_X6_isHeld (l : Launch) (D : va_G) (cI cJ : ClassId) (v0 : Int32) : CI l yX6_isHeld cX6_isHeld 1 .boolean 0 D cI cJ [.int v0] [] [] (f_X6_isHeld v0) := by
  generalize hr : f_X6_isHeld v0 = r
  refine fr_entryI (by decide) rfl ?_
  intro p e s m args below meth c A Q H locs hQ C hret hlk w ls hl
  have hx := C.1
  have hb := C.2.1
  have hl : lv_has ls 1 [(0, .int v0)] := hl
  have hr : (if v0 < 0 then 0 else (if 20 < v0 then 0 else 1)) = r := hr
  refine lv_iload_n hx hb dX6_isHeld_0 rfl (lv_at hl 0 rfl) ?_
  refine lv_if_lt (tgt := 14) hx hb dX6_isHeld_1 (by decide) (fun c1_1 => ?_) (fun c1_1 => ?_)
  · have hr := (if_pos c1_1).symm.trans hr
    refine lv_iconst (v := 0) hx hb dX6_isHeld_14 (by decide) ?_
    subst hr hQ
    exact fr_iret (W0 := []) C hret hlk w rfl rfl rfl dX6_isHeld_15
  · have hr := (if_neg c1_1).symm.trans hr
    refine lv_iload_n hx hb dX6_isHeld_4 rfl (lv_at hl 0 rfl) ?_
    refine lv_bipush (v := 20) hx hb dX6_isHeld_5 (by decide) ?_
    refine lv_icmp_gt (tgt := 14) hx hb dX6_isHeld_7 (by decide) (fun c7_2 => ?_) (fun c7_2 => ?_)
    · have hr := (if_pos c7_2).symm.trans hr
      refine lv_iconst (v := 0) hx hb dX6_isHeld_14 (by decide) ?_
      subst hr hQ
      exact fr_iret (W0 := []) C hret hlk w rfl rfl rfl dX6_isHeld_15
    · have hr := (if_neg c7_2).symm.trans hr
      refine lv_iconst (v := 1) hx hb dX6_isHeld_10 (by decide) ?_
      refine lv_goto (tgt := 15) hx hb dX6_isHeld_11 (by decide) ?_
      subst hr hQ
      exact fr_iret (W0 := []) C hret hlk w rfl rfl rfl dX6_isHeld_15
theorem b_X6_isHeld (v0 : Int32) : (f_X6_isHeld v0) = 0 ∨ (f_X6_isHeld v0) = 1 := by
  unfold f_X6_isHeld
  try dsimp only
  repeat (first | exact Or.inl rfl | exact Or.inr rfl | split)
def f_X6_isPart (v0 : Int32) : Int32 := (if v0 = 0 then 1 else (if v0 = 1 then 1 else 0))
set_option maxRecDepth 100000 in
set_option maxHeartbeats 4000000 in
theorem c_X6_isPart (l : Launch) (D : va_G) (cI cJ : ClassId) (v0 : Int32) : CI l yX6_isPart cX6_isPart 1 .boolean 0 D cI cJ [.int v0] [] [] (f_X6_isPart v0) := by
  generalize hr : f_X6_isPart v0 = r
  refine fr_entryI (by decide) rfl ?_
  intro p e s m args below meth c A Q H locs hQ C hret hlk w ls hl
  have hx := C.1
  have hb := C.2.1
  have hl : lv_has ls 1 [(0, .int v0)] := hl
  have hr : (if v0 = 0 then 1 else (if v0 = 1 then 1 else 0)) = r := hr
  refine lv_iload_n hx hb dX6_isPart_0 rfl (lv_at hl 0 rfl) ?_
  refine lv_if_eq (tgt := 9) hx hb dX6_isPart_1 (by decide) (fun c1_1 => ?_) (fun c1_1 => ?_)
  · have hr := (if_pos c1_1).symm.trans hr
    refine lv_iconst (v := 1) hx hb dX6_isPart_9 (by decide) ?_
    refine lv_goto (tgt := 14) hx hb dX6_isPart_10 (by decide) ?_
    subst hr hQ
    exact fr_iret (W0 := []) C hret hlk w rfl rfl rfl dX6_isPart_14
  · have hr := (if_neg c1_1).symm.trans hr
    refine lv_iload_n hx hb dX6_isPart_4 rfl (lv_at hl 0 rfl) ?_
    refine lv_iconst (v := 1) hx hb dX6_isPart_5 (by decide) ?_
    refine lv_icmp_ne (tgt := 13) hx hb dX6_isPart_6 (by decide) (fun c6_2 => ?_) (fun c6_2 => ?_)
    · have hr := (if_neg c6_2).symm.trans hr
      refine lv_iconst (v := 0) hx hb dX6_isPart_13 (by decide) ?_
      subst hr hQ
      exact fr_iret (W0 := []) C hret hlk w rfl rfl rfl dX6_isPart_14
    · have hr := (if_pos c6_2).symm.trans hr
      refine lv_iconst (v := 1) hx hb dX6_isPart_9 (by decide) ?_
      refine lv_goto (tgt := 14) hx hb dX6_isPart_10 (by decide) ?_
      subst hr hQ
      exact fr_iret (W0 := []) C hret hlk w rfl rfl rfl dX6_isPart_14
theorem b_X6_isPart (v0 : Int32) : (f_X6_isPart v0) = 0 ∨ (f_X6_isPart v0) = 1 := by
  unfold f_X6_isPart
  try dsimp only
  repeat (first | exact Or.inl rfl | exact Or.inr rfl | split)
def f_X6_isMultiple (nn : Int32) (dd : Int32) : Int32 := (if dd ≤ 0 then 0 else (if (nn - nn / dd * dd) = 0 then 1 else 0))
set_option maxRecDepth 100000 in
set_option maxHeartbeats 4000000 in
theorem c_X6_isMultiple (l : Launch) (D : va_G) (cI cJ : ClassId) (nn : Int32) (dd : Int32) : CI l yX6_isMultiple cX6_isMultiple 2 .boolean 0 D cI cJ [.int nn, .int dd] [] [] (f_X6_isMultiple nn dd) := by
  generalize hr : f_X6_isMultiple nn dd = r
  refine fr_entryI (by decide) rfl ?_
  intro p e s m args below meth c A Q H locs hQ C hret hlk w ls hl
  have hx := C.1
  have hb := C.2.1
  have hl : lv_has ls 2 [(0, .int nn), (1, .int dd)] := hl
  have hr : (if dd ≤ 0 then 0 else (if (nn - nn / dd * dd) = 0 then 1 else 0)) = r := hr
  refine lv_iload_n hx hb dX6_isMultiple_0 rfl (lv_at hl 1 rfl) ?_
  refine lv_if_le (tgt := 14) hx hb dX6_isMultiple_1 (by decide) (fun c1_1 => ?_) (fun c1_1 => ?_)
  · have hr := (if_pos c1_1).symm.trans hr
    refine lv_iconst (v := 0) hx hb dX6_isMultiple_14 (by decide) ?_
    subst hr hQ
    exact fr_iret (W0 := []) C hret hlk w rfl rfl rfl dX6_isMultiple_15
  · have hr := (if_neg c1_1).symm.trans hr
    refine lv_iload_n hx hb dX6_isMultiple_4 rfl (lv_at hl 0 rfl) ?_
    refine lv_iload_n hx hb dX6_isMultiple_5 rfl (lv_at hl 1 rfl) ?_
    refine lv_irem hx hb dX6_isMultiple_6 (ne0_gt (by assumption)) ?_
    refine lv_if_ne (tgt := 14) hx hb dX6_isMultiple_7 (by decide) (fun c7_2 => ?_) (fun c7_2 => ?_)
    · have hr := (if_neg c7_2).symm.trans hr
      refine lv_iconst (v := 0) hx hb dX6_isMultiple_14 (by decide) ?_
      subst hr hQ
      exact fr_iret (W0 := []) C hret hlk w rfl rfl rfl dX6_isMultiple_15
    · have hr := (if_pos c7_2).symm.trans hr
      refine lv_iconst (v := 1) hx hb dX6_isMultiple_10 (by decide) ?_
      refine lv_goto (tgt := 15) hx hb dX6_isMultiple_11 (by decide) ?_
      subst hr hQ
      exact fr_iret (W0 := []) C hret hlk w rfl rfl rfl dX6_isMultiple_15
theorem b_X6_isMultiple (nn : Int32) (dd : Int32) : (f_X6_isMultiple nn dd) = 0 ∨ (f_X6_isMultiple nn dd) = 1 := by
  unfold f_X6_isMultiple
  try dsimp only
  repeat (first | exact Or.inl rfl | exact Or.inr rfl | split)
def f_X6_quotient (nn : Int32) (dd : Int32) : Int32 := (if dd ≤ 0 then 0 else nn / dd)
set_option maxRecDepth 100000 in
set_option maxHeartbeats 4000000 in
theorem c_X6_quotient (l : Launch) (D : va_G) (cI cJ : ClassId) (nn : Int32) (dd : Int32) : CI l yX6_quotient cX6_quotient 2 .int 0 D cI cJ [.int nn, .int dd] [] [] (f_X6_quotient nn dd) := by
  generalize hr : f_X6_quotient nn dd = r
  refine fr_entryI (by decide) rfl ?_
  intro p e s m args below meth c A Q H locs hQ C hret hlk w ls hl
  have hx := C.1
  have hb := C.2.1
  have hl : lv_has ls 2 [(0, .int nn), (1, .int dd)] := hl
  have hr : (if dd ≤ 0 then 0 else nn / dd) = r := hr
  refine lv_iload_n hx hb dX6_quotient_0 rfl (lv_at hl 1 rfl) ?_
  refine lv_if_le (tgt := 10) hx hb dX6_quotient_1 (by decide) (fun c1_1 => ?_) (fun c1_1 => ?_)
  · have hr := (if_pos c1_1).symm.trans hr
    refine lv_iconst (v := 0) hx hb dX6_quotient_10 (by decide) ?_
    subst hr hQ
    exact fr_iret (W0 := []) C hret hlk w rfl rfl rfl dX6_quotient_11
  · have hr := (if_neg c1_1).symm.trans hr
    refine lv_iload_n hx hb dX6_quotient_4 rfl (lv_at hl 0 rfl) ?_
    refine lv_iload_n hx hb dX6_quotient_5 rfl (lv_at hl 1 rfl) ?_
    refine lv_idiv hx hb dX6_quotient_6 (ne0_gt (by assumption)) ?_
    refine lv_goto (tgt := 11) hx hb dX6_quotient_7 (by decide) ?_
    subst hr hQ
    exact fr_iret (W0 := []) C hret hlk w rfl rfl rfl dX6_quotient_11
def L_X6_powerOfTen_4 (ex : Int32) : Nat → Int32 → Int32 → Int32 × Int32
  | 0, _, _ => (0, 0)
  | n4 + 1, i1, i2 => (if 4 ≤ i2 then (i1, i2) else (if ex ≤ i2 then (i1, i2) else L_X6_powerOfTen_4 ex n4 (i1 * 10) (i2 + 1)))
def f_X6_powerOfTen (ex : Int32) : Int32 := ((fun (y4 : Int32 × Int32) => y4.1) (L_X6_powerOfTen_4 ex 5 1 0))
set_option maxRecDepth 100000 in
set_option maxHeartbeats 4000000 in
theorem c_X6_powerOfTen (l : Launch) (D : va_G) (cI cJ : ClassId) (ex : Int32) : CI l yX6_powerOfTen cX6_powerOfTen 3 .int 0 D cI cJ [.int ex] [] [] (f_X6_powerOfTen ex) := by
  generalize hr : f_X6_powerOfTen ex = r
  refine fr_entryI (by decide) rfl ?_
  intro p e s m args below meth c A Q H locs hQ C hret hlk w ls hl
  have hx := C.1
  have hb := C.2.1
  have hl : lv_has ls 3 [(0, .int ex)] := hl
  have hr : ((fun (y4 : Int32 × Int32) => y4.1) (L_X6_powerOfTen_4 ex 5 1 0)) = r := hr
  refine lv_iconst (v := 1) hx hb dX6_powerOfTen_0 (by decide) ?_
  refine lv_istore_n (lv' := [(1, .int 1), (0, .int ex)]) hx hb dX6_powerOfTen_1 rfl hl (by decide) rfl (fun ls hl => ?_)
  refine lv_iconst (v := 0) hx hb dX6_powerOfTen_2 (by decide) ?_
  refine lv_istore_n (lv' := [(2, .int 0), (1, .int 1), (0, .int ex)]) hx hb dX6_powerOfTen_3 rfl hl (by decide) rfl (fun ls hl => ?_)
  obtain ⟨y4, hy4⟩ : ∃ y, y = L_X6_powerOfTen_4 ex 5 1 0 := ⟨_, rfl⟩
  have hr : y4.1 = r := by rw [hy4]; exact hr
  have X4 : ∀ (H : Heap) (locs : List Loc), Wd D A s.heap H locs [] → ∀ (ls : Array Slot), lv_has ls 3 [(0, .int ex), (1, .int y4.1), (2, .int y4.2)] → W p l e (rl 0) s m args below meth c H locs 0 0 Q (F0 m 25 ls []) := by
    intro H locs w ls hl
    refine lv_iload_n hx hb dX6_powerOfTen_25 rfl (lv_at hl 1 rfl) ?_
    subst hr hQ
    exact fr_iret (W0 := []) C hret hlk w rfl rfl rfl dX6_powerOfTen_26
  have LP4 : ∀ (n4 : Nat) (k4 : Nat) (i1 : Int32) (i2 : Int32), i2 = nI k4 → k4 ≤ 4 → 4 < k4 + n4 → L_X6_powerOfTen_4 ex n4 i1 i2 = y4 → ∀ (H : Heap) (locs : List Loc), Wd D A s.heap H locs [] → ∀ (ls : Array Slot), lv_has ls 3 [(0, .int ex), (1, .int i1), (2, .int i2)] → W p l e (rl 0) s m args below meth c H locs 0 0 Q (F0 m 4 ls []) := by
    clear hr
    intro n4
    induction n4 with
    | zero => intro k4 i1 i2 hk4 hkN4 hn4; exact absurd hn4 (by omega)
    | succ n4 ih4 =>
      intro k4 i1 i2 hk4 hkN4 hn4 hr H locs w ls hl
      have hr : (if 4 ≤ i2 then (i1, i2) else (if ex ≤ i2 then (i1, i2) else L_X6_powerOfTen_4 ex n4 (i1 * 10) (i2 + 1))) = y4 := hr
      refine lv_iload_n hx hb dX6_powerOfTen_4 rfl (lv_at hl 2 rfl) ?_
      refine lv_iconst (v := 4) hx hb dX6_powerOfTen_5 (by decide) ?_
      refine lv_icmp_ge (tgt := 25) hx hb dX6_powerOfTen_6 (by decide) (fun c6_3 => ?_) (fun c6_3 => ?_)
      · have hr := (if_pos c6_3).symm.trans hr
        subst hr
        exact X4 H locs w ls (lv_sub hl [0, 1, 2] rfl)
      · have hr := (if_neg c6_3).symm.trans hr
        have hkl4 := kl_of hk4 hkN4 (N := 4) (by decide) (by omega) c6_3
        refine lv_iload_n hx hb dX6_powerOfTen_9 rfl (lv_at hl 2 rfl) ?_
        refine lv_iload_n hx hb dX6_powerOfTen_10 rfl (lv_at hl 0 rfl) ?_
        refine lv_icmp_ge (tgt := 25) hx hb dX6_powerOfTen_11 (by decide) (fun c11_4 => ?_) (fun c11_4 => ?_)
        · have hr := (if_pos c11_4).symm.trans hr
          subst hr
          exact X4 H locs w ls (lv_sub hl [0, 1, 2] rfl)
        · have hr := (if_neg c11_4).symm.trans hr
          refine lv_iload_n hx hb dX6_powerOfTen_14 rfl (lv_at hl 1 rfl) ?_
          refine lv_bipush (v := 10) hx hb dX6_powerOfTen_15 (by decide) ?_
          refine lv_imul hx hb dX6_powerOfTen_17 ?_
          refine lv_istore_n (lv' := [(1, .int (i1 * 10)), (0, .int ex), (2, .int i2)]) hx hb dX6_powerOfTen_18 rfl hl (by decide) rfl (fun ls hl => ?_)
          refine lv_iinc (v := i2 + 1) (lv' := [(2, .int (i2 + 1)), (1, .int (i1 * 10)), (0, .int ex)]) hx hb dX6_powerOfTen_19 hl (k := 2) rfl rfl (by decide) rfl (fun ls hl => ?_)
          refine lv_goto (tgt := 4) hx hb dX6_powerOfTen_22 (by decide) ?_
          exact ih4 (k4 + 1) (i1 * 10) (i2 + 1) (by rw [hk4]; exact nI_1 k4) (by omega) (by omega) hr H locs w ls (lv_sub hl [2, 1, 0] rfl)
  exact LP4 5 0 1 0 (by decide) (by omega) (by omega) hy4.symm H locs w ls (lv_sub hl [2, 1, 0] rfl)
def L_X6_figureSum_6  : Nat → Int32 → Int32 → Int32 → Int32 × Int32 × Int32
  | 0, _, _, _ => (0, 0, 0)
  | n6 + 1, i1, i2, i3 => (if 4 ≤ i3 then (i1, i2, i3) else L_X6_figureSum_6  n6 (i1 + (i2 - i2 / 10 * 10)) (i2 / 10) (i3 + 1))
def f_X6_figureSum (pa : Int32) : Int32 := ((fun (y6 : Int32 × Int32 × Int32) => y6.1) (L_X6_figureSum_6 5 0 pa 0))
set_option maxRecDepth 100000 in
set_option maxHeartbeats 4000000 in
theorem c_X6_figureSum (l : Launch) (D : va_G) (cI cJ : ClassId) (pa : Int32) : CI l yX6_figureSum cX6_figureSum 4 .int 0 D cI cJ [.int pa] [] [] (f_X6_figureSum pa) := by
  generalize hr : f_X6_figureSum pa = r
  refine fr_entryI (by decide) rfl ?_
  intro p e s m args below meth c A Q H locs hQ C hret hlk w ls hl
  have hx := C.1
  have hb := C.2.1
  have hl : lv_has ls 4 [(0, .int pa)] := hl
  have hr : ((fun (y6 : Int32 × Int32 × Int32) => y6.1) (L_X6_figureSum_6 5 0 pa 0)) = r := hr
  refine lv_iconst (v := 0) hx hb dX6_figureSum_0 (by decide) ?_
  refine lv_istore_n (lv' := [(1, .int 0), (0, .int pa)]) hx hb dX6_figureSum_1 rfl hl (by decide) rfl (fun ls hl => ?_)
  refine lv_iload_n hx hb dX6_figureSum_2 rfl (lv_at hl 1 rfl) ?_
  refine lv_istore_n (lv' := [(2, .int pa), (1, .int 0), (0, .int pa)]) hx hb dX6_figureSum_3 rfl hl (by decide) rfl (fun ls hl => ?_)
  refine lv_iconst (v := 0) hx hb dX6_figureSum_4 (by decide) ?_
  refine lv_istore_n (lv' := [(3, .int 0), (2, .int pa), (1, .int 0), (0, .int pa)]) hx hb dX6_figureSum_5 rfl hl (by decide) rfl (fun ls hl => ?_)
  obtain ⟨y6, hy6⟩ : ∃ y, y = L_X6_figureSum_6 5 0 pa 0 := ⟨_, rfl⟩
  have hr : y6.1 = r := by rw [hy6]; exact hr
  have X6 : ∀ (H : Heap) (locs : List Loc), Wd D A s.heap H locs [] → ∀ (ls : Array Slot), lv_has ls 4 [(0, .int pa), (1, .int y6.1), (2, .int y6.2.1), (3, .int y6.2.2)] → W p l e (rl 0) s m args below meth c H locs 0 0 Q (F0 m 29 ls []) := by
    intro H locs w ls hl
    refine lv_iload_n hx hb dX6_figureSum_29 rfl (lv_at hl 1 rfl) ?_
    subst hr hQ
    exact fr_iret (W0 := []) C hret hlk w rfl rfl rfl dX6_figureSum_30
  have LP6 : ∀ (n6 : Nat) (k6 : Nat) (i1 : Int32) (i2 : Int32) (i3 : Int32), i3 = nI k6 → k6 ≤ 4 → 4 < k6 + n6 → L_X6_figureSum_6 n6 i1 i2 i3 = y6 → ∀ (H : Heap) (locs : List Loc), Wd D A s.heap H locs [] → ∀ (ls : Array Slot), lv_has ls 4 [(0, .int pa), (1, .int i1), (2, .int i2), (3, .int i3)] → W p l e (rl 0) s m args below meth c H locs 0 0 Q (F0 m 6 ls []) := by
    clear hr
    intro n6
    induction n6 with
    | zero => intro k6 i1 i2 i3 hk6 hkN6 hn6; exact absurd hn6 (by omega)
    | succ n6 ih6 =>
      intro k6 i1 i2 i3 hk6 hkN6 hn6 hr H locs w ls hl
      have hr : (if 4 ≤ i3 then (i1, i2, i3) else L_X6_figureSum_6  n6 (i1 + (i2 - i2 / 10 * 10)) (i2 / 10) (i3 + 1)) = y6 := hr
      refine lv_iload_n hx hb dX6_figureSum_6 rfl (lv_at hl 3 rfl) ?_
      refine lv_iconst (v := 4) hx hb dX6_figureSum_7 (by decide) ?_
      refine lv_icmp_ge (tgt := 29) hx hb dX6_figureSum_8 (by decide) (fun c8_4 => ?_) (fun c8_4 => ?_)
      · have hr := (if_pos c8_4).symm.trans hr
        subst hr
        exact X6 H locs w ls (lv_sub hl [0, 1, 2, 3] rfl)
      · have hr := (if_neg c8_4).symm.trans hr
        have hkl6 := kl_of hk6 hkN6 (N := 4) (by decide) (by omega) c8_4
        refine lv_iload_n hx hb dX6_figureSum_11 rfl (lv_at hl 1 rfl) ?_
        refine lv_iload_n hx hb dX6_figureSum_12 rfl (lv_at hl 2 rfl) ?_
        refine lv_bipush (v := 10) hx hb dX6_figureSum_13 (by decide) ?_
        refine lv_irem hx hb dX6_figureSum_15 (by decide) ?_
        refine lv_iadd hx hb dX6_figureSum_16 ?_
        refine lv_istore_n (lv' := [(1, .int (i1 + (i2 - i2 / 10 * 10))), (0, .int pa), (2, .int i2), (3, .int i3)]) hx hb dX6_figureSum_17 rfl hl (by decide) rfl (fun ls hl => ?_)
        refine lv_iload_n hx hb dX6_figureSum_18 rfl (lv_at hl 2 rfl) ?_
        refine lv_bipush (v := 10) hx hb dX6_figureSum_19 (by decide) ?_
        refine lv_idiv hx hb dX6_figureSum_21 (by decide) ?_
        refine lv_istore_n (lv' := [(2, .int (i2 / 10)), (1, .int (i1 + (i2 - i2 / 10 * 10))), (0, .int pa), (3, .int i3)]) hx hb dX6_figureSum_22 rfl hl (by decide) rfl (fun ls hl => ?_)
        refine lv_iinc (v := i3 + 1) (lv' := [(3, .int (i3 + 1)), (2, .int (i2 / 10)), (1, .int (i1 + (i2 - i2 / 10 * 10))), (0, .int pa)]) hx hb dX6_figureSum_23 hl (k := 3) rfl rfl (by decide) rfl (fun ls hl => ?_)
        refine lv_goto (tgt := 6) hx hb dX6_figureSum_26 (by decide) ?_
        exact ih6 (k6 + 1) (i1 + (i2 - i2 / 10 * 10)) (i2 / 10) (i3 + 1) (by rw [hk6]; exact nI_1 k6) (by omega) (by omega) hr H locs w ls (lv_sub hl [3, 2, 1, 0] rfl)
  exact LP6 5 0 0 pa 0 (by decide) (by omega) (by omega) hy6.symm H locs w ls (lv_sub hl [3, 2, 1, 0] rfl)
def f_X2_isPlace (ro : Int32) (tr : Int32) : Int32 := (if ro < 0 then 0 else (if 5 ≤ ro then 0 else (if tr < 0 then 0 else (if 4 ≤ tr then 0 else 1))))
set_option maxRecDepth 100000 in
set_option maxHeartbeats 4000000 in
theorem c_X2_isPlace (l : Launch) (D : va_G) (cI cJ : ClassId) (ro : Int32) (tr : Int32) : CI l yX2_isPlace cX2_isPlace 2 .boolean 0 D cI cJ [.int ro, .int tr] [] [] (f_X2_isPlace ro tr) := by
  generalize hr : f_X2_isPlace ro tr = r
  refine fr_entryI (by decide) rfl ?_
  intro p e s m args below meth c A Q H locs hQ C hret hlk w ls hl
  have hx := C.1
  have hb := C.2.1
  have hl : lv_has ls 2 [(0, .int ro), (1, .int tr)] := hl
  have hr : (if ro < 0 then 0 else (if 5 ≤ ro then 0 else (if tr < 0 then 0 else (if 4 ≤ tr then 0 else 1)))) = r := hr
  refine lv_iload_n hx hb dX2_isPlace_0 rfl (lv_at hl 0 rfl) ?_
  refine lv_if_lt (tgt := 22) hx hb dX2_isPlace_1 (by decide) (fun c1_1 => ?_) (fun c1_1 => ?_)
  · have hr := (if_pos c1_1).symm.trans hr
    refine lv_iconst (v := 0) hx hb dX2_isPlace_22 (by decide) ?_
    subst hr hQ
    exact fr_iret (W0 := []) C hret hlk w rfl rfl rfl dX2_isPlace_23
  · have hr := (if_neg c1_1).symm.trans hr
    refine lv_iload_n hx hb dX2_isPlace_4 rfl (lv_at hl 0 rfl) ?_
    refine lv_iconst (v := 5) hx hb dX2_isPlace_5 (by decide) ?_
    refine lv_icmp_ge (tgt := 22) hx hb dX2_isPlace_6 (by decide) (fun c6_2 => ?_) (fun c6_2 => ?_)
    · have hr := (if_pos c6_2).symm.trans hr
      refine lv_iconst (v := 0) hx hb dX2_isPlace_22 (by decide) ?_
      subst hr hQ
      exact fr_iret (W0 := []) C hret hlk w rfl rfl rfl dX2_isPlace_23
    · have hr := (if_neg c6_2).symm.trans hr
      refine lv_iload_n hx hb dX2_isPlace_9 rfl (lv_at hl 1 rfl) ?_
      refine lv_if_lt (tgt := 22) hx hb dX2_isPlace_10 (by decide) (fun c10_3 => ?_) (fun c10_3 => ?_)
      · have hr := (if_pos c10_3).symm.trans hr
        refine lv_iconst (v := 0) hx hb dX2_isPlace_22 (by decide) ?_
        subst hr hQ
        exact fr_iret (W0 := []) C hret hlk w rfl rfl rfl dX2_isPlace_23
      · have hr := (if_neg c10_3).symm.trans hr
        refine lv_iload_n hx hb dX2_isPlace_13 rfl (lv_at hl 1 rfl) ?_
        refine lv_iconst (v := 4) hx hb dX2_isPlace_14 (by decide) ?_
        refine lv_icmp_ge (tgt := 22) hx hb dX2_isPlace_15 (by decide) (fun c15_4 => ?_) (fun c15_4 => ?_)
        · have hr := (if_pos c15_4).symm.trans hr
          refine lv_iconst (v := 0) hx hb dX2_isPlace_22 (by decide) ?_
          subst hr hQ
          exact fr_iret (W0 := []) C hret hlk w rfl rfl rfl dX2_isPlace_23
        · have hr := (if_neg c15_4).symm.trans hr
          refine lv_iconst (v := 1) hx hb dX2_isPlace_18 (by decide) ?_
          refine lv_goto (tgt := 23) hx hb dX2_isPlace_19 (by decide) ?_
          subst hr hQ
          exact fr_iret (W0 := []) C hret hlk w rfl rfl rfl dX2_isPlace_23
theorem b_X2_isPlace (ro : Int32) (tr : Int32) : (f_X2_isPlace ro tr) = 0 ∨ (f_X2_isPlace ro tr) = 1 := by
  unfold f_X2_isPlace
  try dsimp only
  repeat (first | exact Or.inl rfl | exact Or.inr rfl | split)
def L_X1_commonDivisor_9  : Nat → Int64 → Int64 → Int32 → Int64 × Int64 × Int32
  | 0, _, _, _ => (0, 0, 0)
  | n9 + 1, i1, i2, i3 => (if 200 ≤ i3 then (i1, i2, i3) else (if i2 ≤ 0 then (i1, i2, i3) else L_X1_commonDivisor_9  n9 i2 (i1 - i1 / i2 * i2) (i3 + 1)))
def f_X1_commonDivisor (m0 : Int64) (n0 : Int64) : Int64 := ((fun (y9 : Int64 × Int64 × Int32) => y9.1) (L_X1_commonDivisor_9 201 m0 n0 0))
set_option maxRecDepth 100000 in
set_option maxHeartbeats 4000000 in
theorem c_X1_commonDivisor (l : Launch) (D : va_G) (cI cJ : ClassId) (m0 : Int64) (n0 : Int64) : CL l yX1_commonDivisor cX1_commonDivisor 11 0 D cI cJ [.long m0, .long n0] [] [] (f_X1_commonDivisor m0 n0) := by
  generalize hr : f_X1_commonDivisor m0 n0 = r
  refine fr_entryL (by decide) rfl ?_
  intro p e s m args below meth c A Q H locs hQ C hret hlk w ls hl
  have hx := C.1
  have hb := C.2.1
  have hl : lv_has ls 11 [(0, .long m0), (2, .long n0)] := hl
  have hr : ((fun (y9 : Int64 × Int64 × Int32) => y9.1) (L_X1_commonDivisor_9 201 m0 n0 0)) = r := hr
  refine lv_lload_n hx hb dX1_commonDivisor_0 rfl (lv_at hl 0 rfl) ?_
  refine lv_lstore (lv' := [(4, .long m0), (0, .long m0), (2, .long n0)]) hx hb dX1_commonDivisor_1 hl (by decide) rfl (fun ls hl => ?_)
  refine lv_lload_n hx hb dX1_commonDivisor_3 rfl (lv_at hl 2 rfl) ?_
  refine lv_lstore (lv' := [(6, .long n0), (4, .long m0), (0, .long m0), (2, .long n0)]) hx hb dX1_commonDivisor_4 hl (by decide) rfl (fun ls hl => ?_)
  refine lv_iconst (v := 0) hx hb dX1_commonDivisor_6 (by decide) ?_
  refine lv_istore (lv' := [(8, .int 0), (6, .long n0), (4, .long m0), (0, .long m0), (2, .long n0)]) hx hb dX1_commonDivisor_7 hl (by decide) rfl (fun ls hl => ?_)
  obtain ⟨y9, hy9⟩ : ∃ y, y = L_X1_commonDivisor_9 201 m0 n0 0 := ⟨_, rfl⟩
  have hr : y9.1 = r := by rw [hy9]; exact hr
  have X9 : ∀ (H : Heap) (locs : List Loc), Wd D A s.heap H locs [] → ∀ (ls : Array Slot), lv_has ls 11 [(0, .long m0), (2, .long n0), (4, .long y9.1), (6, .long y9.2.1), (8, .int y9.2.2)] → W p l e (rl 0) s m args below meth c H locs 0 0 Q (F0 m 45 ls []) := by
    intro H locs w ls hl
    refine lv_lload hx hb dX1_commonDivisor_45 (lv_at hl 2 rfl) ?_
    subst hr hQ
    exact fr_lret C hret hlk w rfl rfl dX1_commonDivisor_47
  have LP9 : ∀ (n9 : Nat) (k9 : Nat) (i1 : Int64) (i2 : Int64) (i3 : Int32), i3 = nI k9 → k9 ≤ 200 → 200 < k9 + n9 → L_X1_commonDivisor_9 n9 i1 i2 i3 = y9 → ∀ (H : Heap) (locs : List Loc), Wd D A s.heap H locs [] → ∀ (ls : Array Slot), lv_has ls 11 [(0, .long m0), (2, .long n0), (4, .long i1), (6, .long i2), (8, .int i3)] → W p l e (rl 0) s m args below meth c H locs 0 0 Q (F0 m 9 ls []) := by
    clear hr
    intro n9
    induction n9 with
    | zero => intro k9 i1 i2 i3 hk9 hkN9 hn9; exact absurd hn9 (by omega)
    | succ n9 ih9 =>
      intro k9 i1 i2 i3 hk9 hkN9 hn9 hr H locs w ls hl
      have hr : (if 200 ≤ i3 then (i1, i2, i3) else (if i2 ≤ 0 then (i1, i2, i3) else L_X1_commonDivisor_9  n9 i2 (i1 - i1 / i2 * i2) (i3 + 1))) = y9 := hr
      refine lv_iload hx hb dX1_commonDivisor_9 (lv_at hl 4 rfl) ?_
      refine lv_sipush (v := 200) hx hb dX1_commonDivisor_11 (by decide) ?_
      refine lv_icmp_ge (tgt := 45) hx hb dX1_commonDivisor_14 (by decide) (fun c14_4 => ?_) (fun c14_4 => ?_)
      · have hr := (if_pos c14_4).symm.trans hr
        subst hr
        exact X9 H locs w ls (lv_sub hl [0, 1, 2, 3, 4] rfl)
      · have hr := (if_neg c14_4).symm.trans hr
        have hkl9 := kl_of hk9 hkN9 (N := 200) (by decide) (by omega) c14_4
        refine lv_lload hx hb dX1_commonDivisor_17 (lv_at hl 3 rfl) ?_
        refine lv_lconst (v := 0) hx hb dX1_commonDivisor_19 (by decide) ?_
        refine fr_lle (tgt := 45) hx hb dX1_commonDivisor_20 dX1_commonDivisor_21 (by decide) (fun c21_5 => ?_) (fun c21_5 => ?_)
        · have hr := (if_pos c21_5).symm.trans hr
          subst hr
          exact X9 H locs w ls (lv_sub hl [0, 1, 2, 3, 4] rfl)
        · have hr := (if_neg c21_5).symm.trans hr
          refine lv_lload hx hb dX1_commonDivisor_24 (lv_at hl 2 rfl) ?_
          refine lv_lload hx hb dX1_commonDivisor_26 (lv_at hl 3 rfl) ?_
          refine lv_lrem hx hb dX1_commonDivisor_28 (ne0_lgt (by assumption)) ?_
          refine lv_lstore (lv' := [(9, .long (i1 - i1 / i2 * i2)), (0, .long m0), (2, .long n0), (4, .long i1), (6, .long i2), (8, .int i3)]) hx hb dX1_commonDivisor_29 hl (by decide) rfl (fun ls hl => ?_)
          refine lv_lload hx hb dX1_commonDivisor_31 (lv_at hl 4 rfl) ?_
          refine lv_lstore (lv' := [(4, .long i2), (9, .long (i1 - i1 / i2 * i2)), (0, .long m0), (2, .long n0), (6, .long i2), (8, .int i3)]) hx hb dX1_commonDivisor_33 hl (by decide) rfl (fun ls hl => ?_)
          refine lv_lload hx hb dX1_commonDivisor_35 (lv_at hl 1 rfl) ?_
          refine lv_lstore (lv' := [(6, .long (i1 - i1 / i2 * i2)), (4, .long i2), (9, .long (i1 - i1 / i2 * i2)), (0, .long m0), (2, .long n0), (8, .int i3)]) hx hb dX1_commonDivisor_37 hl (by decide) rfl (fun ls hl => ?_)
          refine lv_iinc (v := i3 + 1) (lv' := [(8, .int (i3 + 1)), (6, .long (i1 - i1 / i2 * i2)), (4, .long i2), (9, .long (i1 - i1 / i2 * i2)), (0, .long m0), (2, .long n0)]) hx hb dX1_commonDivisor_39 hl (k := 5) rfl rfl (by decide) rfl (fun ls hl => ?_)
          refine lv_goto (tgt := 9) hx hb dX1_commonDivisor_42 (by decide) ?_
          exact ih9 (k9 + 1) i2 (i1 - i1 / i2 * i2) (i3 + 1) (by rw [hk9]; exact nI_1 k9) (by omega) (by omega) hr H locs w ls (lv_sub hl [4, 5, 2, 1, 0] rfl)
  exact LP9 201 0 m0 n0 0 (by decide) (by omega) (by omega) hy9.symm H locs w ls (lv_sub hl [3, 4, 2, 1, 0] rfl)
def f_J13_compare_74951 (q1 : Int64) (q2 : Int64) : Int32 := (if q2 ≤ q1 then (if q1 = q2 then 0 else 1) else (-1))
set_option maxRecDepth 100000 in
set_option maxHeartbeats 4000000 in
theorem c_J13_compare_74951 (l : Launch) (D : va_G) (cI cJ : ClassId) (q1 : Int64) (q2 : Int64) : CI l yJ13_compare_74951 cJ13_compare_74951 4 .int 0 D cI cJ [.long q1, .long q2] [] [] (f_J13_compare_74951 q1 q2) := by
  generalize hr : f_J13_compare_74951 q1 q2 = r
  refine fr_entryI (by decide) rfl ?_
  intro p e s m args below meth c A Q H locs hQ C hret hlk w ls hl
  have hx := C.1
  have hb := C.2.1
  have hl : lv_has ls 4 [(0, .long q1), (2, .long q2)] := hl
  have hr : (if q2 ≤ q1 then (if q1 = q2 then 0 else 1) else (-1)) = r := hr
  refine lv_lload_n hx hb dJ13_compare_74951_0 rfl (lv_at hl 0 rfl) ?_
  refine lv_lload_n hx hb dJ13_compare_74951_1 rfl (lv_at hl 1 rfl) ?_
  refine fr_lge (tgt := 10) hx hb dJ13_compare_74951_2 dJ13_compare_74951_3 (by decide) (fun c3_1 => ?_) (fun c3_1 => ?_)
  · have hr := (if_pos c3_1).symm.trans hr
    refine lv_lload_n hx hb dJ13_compare_74951_10 rfl (lv_at hl 0 rfl) ?_
    refine lv_lload_n hx hb dJ13_compare_74951_11 rfl (lv_at hl 1 rfl) ?_
    refine fr_lne (tgt := 20) hx hb dJ13_compare_74951_12 dJ13_compare_74951_13 (by decide) (fun c13_2 => ?_) (fun c13_2 => ?_)
    · have hr := (if_neg c13_2).symm.trans hr
      refine lv_iconst (v := 1) hx hb dJ13_compare_74951_20 (by decide) ?_
      subst hr hQ
      exact fr_iret (W0 := []) C hret hlk w rfl rfl rfl dJ13_compare_74951_21
    · have hr := (if_pos c13_2).symm.trans hr
      refine lv_iconst (v := 0) hx hb dJ13_compare_74951_16 (by decide) ?_
      refine lv_goto (tgt := 21) hx hb dJ13_compare_74951_17 (by decide) ?_
      subst hr hQ
      exact fr_iret (W0 := []) C hret hlk w rfl rfl rfl dJ13_compare_74951_21
  · have hr := (if_neg c3_1).symm.trans hr
    refine lv_iconst (v := -1) hx hb dJ13_compare_74951_6 (by decide) ?_
    refine lv_goto (tgt := 21) hx hb dJ13_compare_74951_7 (by decide) ?_
    subst hr hQ
    exact fr_iret (W0 := []) C hret hlk w rfl rfl rfl dJ13_compare_74951_21
def f_J6_bitCount_0f7a4 (q1 : Int32) : Int32 := (((((((q1 - ((((q1).toUInt32 >>> ((1 : Int32).toUInt32 &&& Int32.toUInt32 31)).toInt32) &&& 1431655765)) &&& 858993459) + (((((q1 - ((((q1).toUInt32 >>> ((1 : Int32).toUInt32 &&& Int32.toUInt32 31)).toInt32) &&& 1431655765))).toUInt32 >>> ((2 : Int32).toUInt32 &&& Int32.toUInt32 31)).toInt32) &&& 858993459)) + ((((((q1 - ((((q1).toUInt32 >>> ((1 : Int32).toUInt32 &&& Int32.toUInt32 31)).toInt32) &&& 1431655765)) &&& 858993459) + (((((q1 - ((((q1).toUInt32 >>> ((1 : Int32).toUInt32 &&& Int32.toUInt32 31)).toInt32) &&& 1431655765))).toUInt32 >>> ((2 : Int32).toUInt32 &&& Int32.toUInt32 31)).toInt32) &&& 858993459))).toUInt32 >>> ((4 : Int32).toUInt32 &&& Int32.toUInt32 31)).toInt32)) &&& 252645135) + ((((((((q1 - ((((q1).toUInt32 >>> ((1 : Int32).toUInt32 &&& Int32.toUInt32 31)).toInt32) &&& 1431655765)) &&& 858993459) + (((((q1 - ((((q1).toUInt32 >>> ((1 : Int32).toUInt32 &&& Int32.toUInt32 31)).toInt32) &&& 1431655765))).toUInt32 >>> ((2 : Int32).toUInt32 &&& Int32.toUInt32 31)).toInt32) &&& 858993459)) + ((((((q1 - ((((q1).toUInt32 >>> ((1 : Int32).toUInt32 &&& Int32.toUInt32 31)).toInt32) &&& 1431655765)) &&& 858993459) + (((((q1 - ((((q1).toUInt32 >>> ((1 : Int32).toUInt32 &&& Int32.toUInt32 31)).toInt32) &&& 1431655765))).toUInt32 >>> ((2 : Int32).toUInt32 &&& Int32.toUInt32 31)).toInt32) &&& 858993459))).toUInt32 >>> ((4 : Int32).toUInt32 &&& Int32.toUInt32 31)).toInt32)) &&& 252645135)).toUInt32 >>> ((8 : Int32).toUInt32 &&& Int32.toUInt32 31)).toInt32)) + (((((((((q1 - ((((q1).toUInt32 >>> ((1 : Int32).toUInt32 &&& Int32.toUInt32 31)).toInt32) &&& 1431655765)) &&& 858993459) + (((((q1 - ((((q1).toUInt32 >>> ((1 : Int32).toUInt32 &&& Int32.toUInt32 31)).toInt32) &&& 1431655765))).toUInt32 >>> ((2 : Int32).toUInt32 &&& Int32.toUInt32 31)).toInt32) &&& 858993459)) + ((((((q1 - ((((q1).toUInt32 >>> ((1 : Int32).toUInt32 &&& Int32.toUInt32 31)).toInt32) &&& 1431655765)) &&& 858993459) + (((((q1 - ((((q1).toUInt32 >>> ((1 : Int32).toUInt32 &&& Int32.toUInt32 31)).toInt32) &&& 1431655765))).toUInt32 >>> ((2 : Int32).toUInt32 &&& Int32.toUInt32 31)).toInt32) &&& 858993459))).toUInt32 >>> ((4 : Int32).toUInt32 &&& Int32.toUInt32 31)).toInt32)) &&& 252645135) + ((((((((q1 - ((((q1).toUInt32 >>> ((1 : Int32).toUInt32 &&& Int32.toUInt32 31)).toInt32) &&& 1431655765)) &&& 858993459) + (((((q1 - ((((q1).toUInt32 >>> ((1 : Int32).toUInt32 &&& Int32.toUInt32 31)).toInt32) &&& 1431655765))).toUInt32 >>> ((2 : Int32).toUInt32 &&& Int32.toUInt32 31)).toInt32) &&& 858993459)) + ((((((q1 - ((((q1).toUInt32 >>> ((1 : Int32).toUInt32 &&& Int32.toUInt32 31)).toInt32) &&& 1431655765)) &&& 858993459) + (((((q1 - ((((q1).toUInt32 >>> ((1 : Int32).toUInt32 &&& Int32.toUInt32 31)).toInt32) &&& 1431655765))).toUInt32 >>> ((2 : Int32).toUInt32 &&& Int32.toUInt32 31)).toInt32) &&& 858993459))).toUInt32 >>> ((4 : Int32).toUInt32 &&& Int32.toUInt32 31)).toInt32)) &&& 252645135)).toUInt32 >>> ((8 : Int32).toUInt32 &&& Int32.toUInt32 31)).toInt32))).toUInt32 >>> ((16 : Int32).toUInt32 &&& Int32.toUInt32 31)).toInt32)) &&& 63
set_option maxRecDepth 100000 in
set_option maxHeartbeats 4000000 in
theorem c_J6_bitCount_0f7a4 (l : Launch) (D : va_G) (cI cJ : ClassId) (q1 : Int32) : CI l yJ6_bitCount_0f7a4 cJ6_bitCount_0f7a4 1 .int 0 D cI cJ [.int q1] [] [] (f_J6_bitCount_0f7a4 q1) := by
  generalize hr : f_J6_bitCount_0f7a4 q1 = r
  refine fr_entryI (by decide) rfl ?_
  intro p e s m args below meth c A Q H locs hQ C hret hlk w ls hl
  have hx := C.1
  have hb := C.2.1
  have hl : lv_has ls 1 [(0, .int q1)] := hl
  have hr : (((((((q1 - ((((q1).toUInt32 >>> ((1 : Int32).toUInt32 &&& Int32.toUInt32 31)).toInt32) &&& 1431655765)) &&& 858993459) + (((((q1 - ((((q1).toUInt32 >>> ((1 : Int32).toUInt32 &&& Int32.toUInt32 31)).toInt32) &&& 1431655765))).toUInt32 >>> ((2 : Int32).toUInt32 &&& Int32.toUInt32 31)).toInt32) &&& 858993459)) + ((((((q1 - ((((q1).toUInt32 >>> ((1 : Int32).toUInt32 &&& Int32.toUInt32 31)).toInt32) &&& 1431655765)) &&& 858993459) + (((((q1 - ((((q1).toUInt32 >>> ((1 : Int32).toUInt32 &&& Int32.toUInt32 31)).toInt32) &&& 1431655765))).toUInt32 >>> ((2 : Int32).toUInt32 &&& Int32.toUInt32 31)).toInt32) &&& 858993459))).toUInt32 >>> ((4 : Int32).toUInt32 &&& Int32.toUInt32 31)).toInt32)) &&& 252645135) + ((((((((q1 - ((((q1).toUInt32 >>> ((1 : Int32).toUInt32 &&& Int32.toUInt32 31)).toInt32) &&& 1431655765)) &&& 858993459) + (((((q1 - ((((q1).toUInt32 >>> ((1 : Int32).toUInt32 &&& Int32.toUInt32 31)).toInt32) &&& 1431655765))).toUInt32 >>> ((2 : Int32).toUInt32 &&& Int32.toUInt32 31)).toInt32) &&& 858993459)) + ((((((q1 - ((((q1).toUInt32 >>> ((1 : Int32).toUInt32 &&& Int32.toUInt32 31)).toInt32) &&& 1431655765)) &&& 858993459) + (((((q1 - ((((q1).toUInt32 >>> ((1 : Int32).toUInt32 &&& Int32.toUInt32 31)).toInt32) &&& 1431655765))).toUInt32 >>> ((2 : Int32).toUInt32 &&& Int32.toUInt32 31)).toInt32) &&& 858993459))).toUInt32 >>> ((4 : Int32).toUInt32 &&& Int32.toUInt32 31)).toInt32)) &&& 252645135)).toUInt32 >>> ((8 : Int32).toUInt32 &&& Int32.toUInt32 31)).toInt32)) + (((((((((q1 - ((((q1).toUInt32 >>> ((1 : Int32).toUInt32 &&& Int32.toUInt32 31)).toInt32) &&& 1431655765)) &&& 858993459) + (((((q1 - ((((q1).toUInt32 >>> ((1 : Int32).toUInt32 &&& Int32.toUInt32 31)).toInt32) &&& 1431655765))).toUInt32 >>> ((2 : Int32).toUInt32 &&& Int32.toUInt32 31)).toInt32) &&& 858993459)) + ((((((q1 - ((((q1).toUInt32 >>> ((1 : Int32).toUInt32 &&& Int32.toUInt32 31)).toInt32) &&& 1431655765)) &&& 858993459) + (((((q1 - ((((q1).toUInt32 >>> ((1 : Int32).toUInt32 &&& Int32.toUInt32 31)).toInt32) &&& 1431655765))).toUInt32 >>> ((2 : Int32).toUInt32 &&& Int32.toUInt32 31)).toInt32) &&& 858993459))).toUInt32 >>> ((4 : Int32).toUInt32 &&& Int32.toUInt32 31)).toInt32)) &&& 252645135) + ((((((((q1 - ((((q1).toUInt32 >>> ((1 : Int32).toUInt32 &&& Int32.toUInt32 31)).toInt32) &&& 1431655765)) &&& 858993459) + (((((q1 - ((((q1).toUInt32 >>> ((1 : Int32).toUInt32 &&& Int32.toUInt32 31)).toInt32) &&& 1431655765))).toUInt32 >>> ((2 : Int32).toUInt32 &&& Int32.toUInt32 31)).toInt32) &&& 858993459)) + ((((((q1 - ((((q1).toUInt32 >>> ((1 : Int32).toUInt32 &&& Int32.toUInt32 31)).toInt32) &&& 1431655765)) &&& 858993459) + (((((q1 - ((((q1).toUInt32 >>> ((1 : Int32).toUInt32 &&& Int32.toUInt32 31)).toInt32) &&& 1431655765))).toUInt32 >>> ((2 : Int32).toUInt32 &&& Int32.toUInt32 31)).toInt32) &&& 858993459))).toUInt32 >>> ((4 : Int32).toUInt32 &&& Int32.toUInt32 31)).toInt32)) &&& 252645135)).toUInt32 >>> ((8 : Int32).toUInt32 &&& Int32.toUInt32 31)).toInt32))).toUInt32 >>> ((16 : Int32).toUInt32 &&& Int32.toUInt32 31)).toInt32)) &&& 63 = r := hr
  refine lv_iload_n hx hb dJ6_bitCount_0f7a4_0 rfl (lv_at hl 0 rfl) ?_
  refine lv_iload_n hx hb dJ6_bitCount_0f7a4_1 rfl (lv_at hl 0 rfl) ?_
  refine lv_iconst (v := 1) hx hb dJ6_bitCount_0f7a4_2 (by decide) ?_
  refine lv_iushr (v := ((q1).toUInt32 >>> ((1 : Int32).toUInt32 &&& Int32.toUInt32 31)).toInt32) hx hb dJ6_bitCount_0f7a4_3 rfl ?_
  refine lv_ldcw hx hb C.2.2.2.1 (C.2.2.2.2.1 _ mw_21_21) dJ6_bitCount_0f7a4_4 ?_
  refine lv_iand hx hb dJ6_bitCount_0f7a4_7 ?_
  refine lv_isub hx hb dJ6_bitCount_0f7a4_8 ?_
  refine lv_istore_n (lv' := [(0, .int (q1 - ((((q1).toUInt32 >>> ((1 : Int32).toUInt32 &&& Int32.toUInt32 31)).toInt32) &&& 1431655765)))]) hx hb dJ6_bitCount_0f7a4_9 rfl hl (by decide) rfl (fun ls hl => ?_)
  refine lv_iload_n hx hb dJ6_bitCount_0f7a4_10 rfl (lv_at hl 0 rfl) ?_
  refine lv_ldcw hx hb C.2.2.2.1 (C.2.2.2.2.1 _ mw_21_22) dJ6_bitCount_0f7a4_11 ?_
  refine lv_iand hx hb dJ6_bitCount_0f7a4_14 ?_
  refine lv_iload_n hx hb dJ6_bitCount_0f7a4_15 rfl (lv_at hl 0 rfl) ?_
  refine lv_iconst (v := 2) hx hb dJ6_bitCount_0f7a4_16 (by decide) ?_
  refine lv_iushr (v := (((q1 - ((((q1).toUInt32 >>> ((1 : Int32).toUInt32 &&& Int32.toUInt32 31)).toInt32) &&& 1431655765))).toUInt32 >>> ((2 : Int32).toUInt32 &&& Int32.toUInt32 31)).toInt32) hx hb dJ6_bitCount_0f7a4_17 rfl ?_
  refine lv_ldcw hx hb C.2.2.2.1 (C.2.2.2.2.1 _ mw_21_22) dJ6_bitCount_0f7a4_18 ?_
  refine lv_iand hx hb dJ6_bitCount_0f7a4_21 ?_
  refine lv_iadd hx hb dJ6_bitCount_0f7a4_22 ?_
  refine lv_istore_n (lv' := [(0, .int (((q1 - ((((q1).toUInt32 >>> ((1 : Int32).toUInt32 &&& Int32.toUInt32 31)).toInt32) &&& 1431655765)) &&& 858993459) + (((((q1 - ((((q1).toUInt32 >>> ((1 : Int32).toUInt32 &&& Int32.toUInt32 31)).toInt32) &&& 1431655765))).toUInt32 >>> ((2 : Int32).toUInt32 &&& Int32.toUInt32 31)).toInt32) &&& 858993459)))]) hx hb dJ6_bitCount_0f7a4_23 rfl hl (by decide) rfl (fun ls hl => ?_)
  refine lv_iload_n hx hb dJ6_bitCount_0f7a4_24 rfl (lv_at hl 0 rfl) ?_
  refine lv_iload_n hx hb dJ6_bitCount_0f7a4_25 rfl (lv_at hl 0 rfl) ?_
  refine lv_iconst (v := 4) hx hb dJ6_bitCount_0f7a4_26 (by decide) ?_
  refine lv_iushr (v := (((((q1 - ((((q1).toUInt32 >>> ((1 : Int32).toUInt32 &&& Int32.toUInt32 31)).toInt32) &&& 1431655765)) &&& 858993459) + (((((q1 - ((((q1).toUInt32 >>> ((1 : Int32).toUInt32 &&& Int32.toUInt32 31)).toInt32) &&& 1431655765))).toUInt32 >>> ((2 : Int32).toUInt32 &&& Int32.toUInt32 31)).toInt32) &&& 858993459))).toUInt32 >>> ((4 : Int32).toUInt32 &&& Int32.toUInt32 31)).toInt32) hx hb dJ6_bitCount_0f7a4_27 rfl ?_
  refine lv_iadd hx hb dJ6_bitCount_0f7a4_28 ?_
  refine lv_ldcw hx hb C.2.2.2.1 (C.2.2.2.2.1 _ mw_21_23) dJ6_bitCount_0f7a4_29 ?_
  refine lv_iand hx hb dJ6_bitCount_0f7a4_32 ?_
  refine lv_istore_n (lv' := [(0, .int (((((q1 - ((((q1).toUInt32 >>> ((1 : Int32).toUInt32 &&& Int32.toUInt32 31)).toInt32) &&& 1431655765)) &&& 858993459) + (((((q1 - ((((q1).toUInt32 >>> ((1 : Int32).toUInt32 &&& Int32.toUInt32 31)).toInt32) &&& 1431655765))).toUInt32 >>> ((2 : Int32).toUInt32 &&& Int32.toUInt32 31)).toInt32) &&& 858993459)) + ((((((q1 - ((((q1).toUInt32 >>> ((1 : Int32).toUInt32 &&& Int32.toUInt32 31)).toInt32) &&& 1431655765)) &&& 858993459) + (((((q1 - ((((q1).toUInt32 >>> ((1 : Int32).toUInt32 &&& Int32.toUInt32 31)).toInt32) &&& 1431655765))).toUInt32 >>> ((2 : Int32).toUInt32 &&& Int32.toUInt32 31)).toInt32) &&& 858993459))).toUInt32 >>> ((4 : Int32).toUInt32 &&& Int32.toUInt32 31)).toInt32)) &&& 252645135))]) hx hb dJ6_bitCount_0f7a4_33 rfl hl (by decide) rfl (fun ls hl => ?_)
  refine lv_iload_n hx hb dJ6_bitCount_0f7a4_34 rfl (lv_at hl 0 rfl) ?_
  refine lv_iload_n hx hb dJ6_bitCount_0f7a4_35 rfl (lv_at hl 0 rfl) ?_
  refine lv_bipush (v := 8) hx hb dJ6_bitCount_0f7a4_36 (by decide) ?_
  refine lv_iushr (v := (((((((q1 - ((((q1).toUInt32 >>> ((1 : Int32).toUInt32 &&& Int32.toUInt32 31)).toInt32) &&& 1431655765)) &&& 858993459) + (((((q1 - ((((q1).toUInt32 >>> ((1 : Int32).toUInt32 &&& Int32.toUInt32 31)).toInt32) &&& 1431655765))).toUInt32 >>> ((2 : Int32).toUInt32 &&& Int32.toUInt32 31)).toInt32) &&& 858993459)) + ((((((q1 - ((((q1).toUInt32 >>> ((1 : Int32).toUInt32 &&& Int32.toUInt32 31)).toInt32) &&& 1431655765)) &&& 858993459) + (((((q1 - ((((q1).toUInt32 >>> ((1 : Int32).toUInt32 &&& Int32.toUInt32 31)).toInt32) &&& 1431655765))).toUInt32 >>> ((2 : Int32).toUInt32 &&& Int32.toUInt32 31)).toInt32) &&& 858993459))).toUInt32 >>> ((4 : Int32).toUInt32 &&& Int32.toUInt32 31)).toInt32)) &&& 252645135)).toUInt32 >>> ((8 : Int32).toUInt32 &&& Int32.toUInt32 31)).toInt32) hx hb dJ6_bitCount_0f7a4_38 rfl ?_
  refine lv_iadd hx hb dJ6_bitCount_0f7a4_39 ?_
  refine lv_istore_n (lv' := [(0, .int ((((((q1 - ((((q1).toUInt32 >>> ((1 : Int32).toUInt32 &&& Int32.toUInt32 31)).toInt32) &&& 1431655765)) &&& 858993459) + (((((q1 - ((((q1).toUInt32 >>> ((1 : Int32).toUInt32 &&& Int32.toUInt32 31)).toInt32) &&& 1431655765))).toUInt32 >>> ((2 : Int32).toUInt32 &&& Int32.toUInt32 31)).toInt32) &&& 858993459)) + ((((((q1 - ((((q1).toUInt32 >>> ((1 : Int32).toUInt32 &&& Int32.toUInt32 31)).toInt32) &&& 1431655765)) &&& 858993459) + (((((q1 - ((((q1).toUInt32 >>> ((1 : Int32).toUInt32 &&& Int32.toUInt32 31)).toInt32) &&& 1431655765))).toUInt32 >>> ((2 : Int32).toUInt32 &&& Int32.toUInt32 31)).toInt32) &&& 858993459))).toUInt32 >>> ((4 : Int32).toUInt32 &&& Int32.toUInt32 31)).toInt32)) &&& 252645135) + ((((((((q1 - ((((q1).toUInt32 >>> ((1 : Int32).toUInt32 &&& Int32.toUInt32 31)).toInt32) &&& 1431655765)) &&& 858993459) + (((((q1 - ((((q1).toUInt32 >>> ((1 : Int32).toUInt32 &&& Int32.toUInt32 31)).toInt32) &&& 1431655765))).toUInt32 >>> ((2 : Int32).toUInt32 &&& Int32.toUInt32 31)).toInt32) &&& 858993459)) + ((((((q1 - ((((q1).toUInt32 >>> ((1 : Int32).toUInt32 &&& Int32.toUInt32 31)).toInt32) &&& 1431655765)) &&& 858993459) + (((((q1 - ((((q1).toUInt32 >>> ((1 : Int32).toUInt32 &&& Int32.toUInt32 31)).toInt32) &&& 1431655765))).toUInt32 >>> ((2 : Int32).toUInt32 &&& Int32.toUInt32 31)).toInt32) &&& 858993459))).toUInt32 >>> ((4 : Int32).toUInt32 &&& Int32.toUInt32 31)).toInt32)) &&& 252645135)).toUInt32 >>> ((8 : Int32).toUInt32 &&& Int32.toUInt32 31)).toInt32)))]) hx hb dJ6_bitCount_0f7a4_40 rfl hl (by decide) rfl (fun ls hl => ?_)
  refine lv_iload_n hx hb dJ6_bitCount_0f7a4_41 rfl (lv_at hl 0 rfl) ?_
  refine lv_iload_n hx hb dJ6_bitCount_0f7a4_42 rfl (lv_at hl 0 rfl) ?_
  refine lv_bipush (v := 16) hx hb dJ6_bitCount_0f7a4_43 (by decide) ?_
  refine lv_iushr (v := ((((((((q1 - ((((q1).toUInt32 >>> ((1 : Int32).toUInt32 &&& Int32.toUInt32 31)).toInt32) &&& 1431655765)) &&& 858993459) + (((((q1 - ((((q1).toUInt32 >>> ((1 : Int32).toUInt32 &&& Int32.toUInt32 31)).toInt32) &&& 1431655765))).toUInt32 >>> ((2 : Int32).toUInt32 &&& Int32.toUInt32 31)).toInt32) &&& 858993459)) + ((((((q1 - ((((q1).toUInt32 >>> ((1 : Int32).toUInt32 &&& Int32.toUInt32 31)).toInt32) &&& 1431655765)) &&& 858993459) + (((((q1 - ((((q1).toUInt32 >>> ((1 : Int32).toUInt32 &&& Int32.toUInt32 31)).toInt32) &&& 1431655765))).toUInt32 >>> ((2 : Int32).toUInt32 &&& Int32.toUInt32 31)).toInt32) &&& 858993459))).toUInt32 >>> ((4 : Int32).toUInt32 &&& Int32.toUInt32 31)).toInt32)) &&& 252645135) + ((((((((q1 - ((((q1).toUInt32 >>> ((1 : Int32).toUInt32 &&& Int32.toUInt32 31)).toInt32) &&& 1431655765)) &&& 858993459) + (((((q1 - ((((q1).toUInt32 >>> ((1 : Int32).toUInt32 &&& Int32.toUInt32 31)).toInt32) &&& 1431655765))).toUInt32 >>> ((2 : Int32).toUInt32 &&& Int32.toUInt32 31)).toInt32) &&& 858993459)) + ((((((q1 - ((((q1).toUInt32 >>> ((1 : Int32).toUInt32 &&& Int32.toUInt32 31)).toInt32) &&& 1431655765)) &&& 858993459) + (((((q1 - ((((q1).toUInt32 >>> ((1 : Int32).toUInt32 &&& Int32.toUInt32 31)).toInt32) &&& 1431655765))).toUInt32 >>> ((2 : Int32).toUInt32 &&& Int32.toUInt32 31)).toInt32) &&& 858993459))).toUInt32 >>> ((4 : Int32).toUInt32 &&& Int32.toUInt32 31)).toInt32)) &&& 252645135)).toUInt32 >>> ((8 : Int32).toUInt32 &&& Int32.toUInt32 31)).toInt32))).toUInt32 >>> ((16 : Int32).toUInt32 &&& Int32.toUInt32 31)).toInt32) hx hb dJ6_bitCount_0f7a4_45 rfl ?_
  refine lv_iadd hx hb dJ6_bitCount_0f7a4_46 ?_
  refine lv_istore_n (lv' := [(0, .int (((((((q1 - ((((q1).toUInt32 >>> ((1 : Int32).toUInt32 &&& Int32.toUInt32 31)).toInt32) &&& 1431655765)) &&& 858993459) + (((((q1 - ((((q1).toUInt32 >>> ((1 : Int32).toUInt32 &&& Int32.toUInt32 31)).toInt32) &&& 1431655765))).toUInt32 >>> ((2 : Int32).toUInt32 &&& Int32.toUInt32 31)).toInt32) &&& 858993459)) + ((((((q1 - ((((q1).toUInt32 >>> ((1 : Int32).toUInt32 &&& Int32.toUInt32 31)).toInt32) &&& 1431655765)) &&& 858993459) + (((((q1 - ((((q1).toUInt32 >>> ((1 : Int32).toUInt32 &&& Int32.toUInt32 31)).toInt32) &&& 1431655765))).toUInt32 >>> ((2 : Int32).toUInt32 &&& Int32.toUInt32 31)).toInt32) &&& 858993459))).toUInt32 >>> ((4 : Int32).toUInt32 &&& Int32.toUInt32 31)).toInt32)) &&& 252645135) + ((((((((q1 - ((((q1).toUInt32 >>> ((1 : Int32).toUInt32 &&& Int32.toUInt32 31)).toInt32) &&& 1431655765)) &&& 858993459) + (((((q1 - ((((q1).toUInt32 >>> ((1 : Int32).toUInt32 &&& Int32.toUInt32 31)).toInt32) &&& 1431655765))).toUInt32 >>> ((2 : Int32).toUInt32 &&& Int32.toUInt32 31)).toInt32) &&& 858993459)) + ((((((q1 - ((((q1).toUInt32 >>> ((1 : Int32).toUInt32 &&& Int32.toUInt32 31)).toInt32) &&& 1431655765)) &&& 858993459) + (((((q1 - ((((q1).toUInt32 >>> ((1 : Int32).toUInt32 &&& Int32.toUInt32 31)).toInt32) &&& 1431655765))).toUInt32 >>> ((2 : Int32).toUInt32 &&& Int32.toUInt32 31)).toInt32) &&& 858993459))).toUInt32 >>> ((4 : Int32).toUInt32 &&& Int32.toUInt32 31)).toInt32)) &&& 252645135)).toUInt32 >>> ((8 : Int32).toUInt32 &&& Int32.toUInt32 31)).toInt32)) + (((((((((q1 - ((((q1).toUInt32 >>> ((1 : Int32).toUInt32 &&& Int32.toUInt32 31)).toInt32) &&& 1431655765)) &&& 858993459) + (((((q1 - ((((q1).toUInt32 >>> ((1 : Int32).toUInt32 &&& Int32.toUInt32 31)).toInt32) &&& 1431655765))).toUInt32 >>> ((2 : Int32).toUInt32 &&& Int32.toUInt32 31)).toInt32) &&& 858993459)) + ((((((q1 - ((((q1).toUInt32 >>> ((1 : Int32).toUInt32 &&& Int32.toUInt32 31)).toInt32) &&& 1431655765)) &&& 858993459) + (((((q1 - ((((q1).toUInt32 >>> ((1 : Int32).toUInt32 &&& Int32.toUInt32 31)).toInt32) &&& 1431655765))).toUInt32 >>> ((2 : Int32).toUInt32 &&& Int32.toUInt32 31)).toInt32) &&& 858993459))).toUInt32 >>> ((4 : Int32).toUInt32 &&& Int32.toUInt32 31)).toInt32)) &&& 252645135) + ((((((((q1 - ((((q1).toUInt32 >>> ((1 : Int32).toUInt32 &&& Int32.toUInt32 31)).toInt32) &&& 1431655765)) &&& 858993459) + (((((q1 - ((((q1).toUInt32 >>> ((1 : Int32).toUInt32 &&& Int32.toUInt32 31)).toInt32) &&& 1431655765))).toUInt32 >>> ((2 : Int32).toUInt32 &&& Int32.toUInt32 31)).toInt32) &&& 858993459)) + ((((((q1 - ((((q1).toUInt32 >>> ((1 : Int32).toUInt32 &&& Int32.toUInt32 31)).toInt32) &&& 1431655765)) &&& 858993459) + (((((q1 - ((((q1).toUInt32 >>> ((1 : Int32).toUInt32 &&& Int32.toUInt32 31)).toInt32) &&& 1431655765))).toUInt32 >>> ((2 : Int32).toUInt32 &&& Int32.toUInt32 31)).toInt32) &&& 858993459))).toUInt32 >>> ((4 : Int32).toUInt32 &&& Int32.toUInt32 31)).toInt32)) &&& 252645135)).toUInt32 >>> ((8 : Int32).toUInt32 &&& Int32.toUInt32 31)).toInt32))).toUInt32 >>> ((16 : Int32).toUInt32 &&& Int32.toUInt32 31)).toInt32)))]) hx hb dJ6_bitCount_0f7a4_47 rfl hl (by decide) rfl (fun ls hl => ?_)
  refine lv_iload_n hx hb dJ6_bitCount_0f7a4_48 rfl (lv_at hl 0 rfl) ?_
  refine lv_bipush (v := 63) hx hb dJ6_bitCount_0f7a4_49 (by decide) ?_
  refine lv_iand hx hb dJ6_bitCount_0f7a4_51 ?_
  subst hr hQ
  exact fr_iret (W0 := []) C hret hlk w rfl rfl rfl dJ6_bitCount_0f7a4_52
end
section
theorem nI_mulc {i Cc : Int32} {a cn : Nat} (hi : i = nI a) (hC : Cc = nI cn) : i * Cc = nI (a * cn) := by rw [hi, hC, pk_mul]
theorem vi_lin {i j Cc : Int32} {a b cn n : Nat} (hi : i = nI a) (hj : j = nI b) (hC : Cc = nI cn) (h : a * cn + b < n) (hn : n < 2 ^ 31) : vp_in (i * Cc + j) n := by
  rw [nI_mulc hi hC, hj, nI_add]; exact vp_in_nI h hn
theorem vi_add {j Cc : Int32} {b cn n : Nat} (hj : j = nI b) (hC : Cc = nI cn) (h : cn + b < n) (hn : n < 2 ^ 31) : vp_in (Cc + j) n := by
  rw [hC, hj, nI_add]; exact vp_in_nI h hn
theorem rg_of {x B : Int32} {n : Nat} (h1 : ¬ x < 0) (h2 : ¬ B ≤ x) (hB : B.toInt = n) (hn : n < 2 ^ 31) : ∃ k : Nat, k < n ∧ x = nI k := vp_in_of (vi_guard h1 h2 hB) hn
theorem place_of {r t : Int32} (h : ¬ f_X2_isPlace r t = 0) : ∃ a b : Nat, a < 5 ∧ b < 4 ∧ r = nI a ∧ t = nI b := by
  unfold f_X2_isPlace at h
  split at h
  · exact absurd rfl h
  · split at h
    · exact absurd rfl h
    · split at h
      · exact absurd rfl h
      · split at h
        · exact absurd rfl h
        · rename_i h1 h2 h3 h4
          obtain ⟨a, ha, ea⟩ := rg_of h1 h2 (n := 5) (by decide) (by decide)
          obtain ⟨b, hb, eb⟩ := rg_of h3 h4 (n := 4) (by decide) (by decide)
          exact ⟨a, b, ha, hb, ea, eb⟩
theorem vi_place {r t : Int32} (h : ¬ f_X2_isPlace r t = 0) : vp_in (r * 4 + t) 20 := by
  obtain ⟨a, b, ha, hb, ea, eb⟩ := place_of h
  exact vi_lin ea eb (cn := 4) (by decide) (by omega) (by decide)
theorem sw_look_X5_takes {x : Int32} (c0 : ¬ x = 44) (c1 : ¬ x = 59) : Op.lookupswitch.offset (#[(44, 27), (59, 32)] : Array (Int × Int)).toList 37 x.toInt = 37 := by
  have h0 : ¬ x.toInt = 44 := fun h => c0 (Int32.toInt_inj.mp (h.trans (by decide)))
  have h1 : ¬ x.toInt = 59 := fun h => c1 (Int32.toInt_inj.mp (h.trans (by decide)))
  simp [Op.lookupswitch.offset]
  rw [if_neg (fun h => h0 h.symm), if_neg (fun h => h1 h.symm)]
theorem sw_look_X6_tracer {x : Int32} (c0 : ¬ x = 0) (c1 : ¬ x = 1) : Op.lookupswitch.offset (#[(0, 28), (1, 39)] : Array (Int × Int)).toList 49 x.toInt = 49 := by
  have h0 : ¬ x.toInt = 0 := fun h => c0 (Int32.toInt_inj.mp (h.trans (by decide)))
  have h1 : ¬ x.toInt = 1 := fun h => c1 (Int32.toInt_inj.mp (h.trans (by decide)))
  simp [Op.lookupswitch.offset]
  rw [if_neg (fun h => h0 h.symm), if_neg (fun h => h1 h.symm)]
theorem ne0_lpos {x : Int64} (h : 0 < x) : ¬ x = 0 := fun e => by rw [e] at h; exact absurd h (by decide)
theorem ne0_pos {x : Int32} (h : 0 < x) : ¬ x = 0 := fun e => by rw [e] at h; exact absurd h (by decide)
end
section
theorem mw_5_8 : Cond.fieldLink RX4 15 "MudShares$Page" "length" "I" ∈ wsL_law := ck_5 _ (List.mem_of_getElem? (i := 8) rfl)
theorem mw_2_13 : Cond.fieldLink RX4 9 "MudShares$Page" "codes" "[I" ∈ wsL_law := ck_2 _ (List.mem_of_getElem? (i := 13) rfl)
theorem fg_X4_15 : FG RX4 15 4 1 := ⟨RX4, TX4, 2, rfl, by decide, inlX4, mw_5_8⟩
theorem fg_X4_9 : FG RX4 9 4 0 := ⟨RX4, TX4, 2, rfl, by decide, inlX4, mw_2_13⟩
theorem fp_X4_15 : FP RX4 15 4 1 .int := ⟨RX4, TX4, 2, tyX4, rfl, by decide, inlX4, mw_5_8, tyX4_ok, nmX4, rfl, by decide +kernel⟩
def f_X4_isFull (xpl : Int32) : Int32 := (if xpl < 47 then 0 else 1)
set_option maxRecDepth 100000 in
set_option maxHeartbeats 4000000 in
theorem c_X4_isFull (l : Launch) (D : va_G) (cI cJ : ClassId) (ap apc : Nat) (xpl : Int32) (xpc : Nat → Int32)  : CI l yX4_isFull cX4_isFull 1 .boolean 0 D cI cJ [.ref ap] [(ap, .inr (4, [.ref apc, .int xpl])), (apc, .inl (cI, 47, .inl xpc))] [(ap, .inr (4, [.ref apc, .int xpl])), (apc, .inl (cI, 47, .inl xpc))] (f_X4_isFull xpl) := by
  generalize hr : f_X4_isFull xpl = r
  refine fr_entryI (by decide) rfl ?_
  intro p e s m args below meth c A Q H locs hQ C hret hlk w ls hl
  have hx := C.1
  have hb := C.2.1
  have hl : lv_has ls 1 [(0, .ref ap)] := hl
  have hr : (if xpl < 47 then 0 else 1) = r := hr
  refine lv_aload_n hx hb dX4_isFull_0 rfl (lv_at hl 0 rfl) ?_
  refine fr_get C w fg_X4_15 0 rfl rfl dX4_isFull_1 ?_
  refine lv_bipush (v := 47) hx hb dX4_isFull_4 (by decide) ?_
  refine lv_icmp_lt (tgt := 13) hx hb dX4_isFull_6 (by decide) (fun c6_1 => ?_) (fun c6_1 => ?_)
  · have hr := (if_pos c6_1).symm.trans hr
    refine lv_iconst (v := 0) hx hb dX4_isFull_13 (by decide) ?_
    subst hr hQ
    exact fr_iret (W0 := []) C hret hlk w rfl rfl rfl dX4_isFull_14
  · have hr := (if_neg c6_1).symm.trans hr
    refine lv_iconst (v := 1) hx hb dX4_isFull_9 (by decide) ?_
    refine lv_goto (tgt := 14) hx hb dX4_isFull_10 (by decide) ?_
    subst hr hQ
    exact fr_iret (W0 := []) C hret hlk w rfl rfl rfl dX4_isFull_14
theorem b_X4_isFull (xpl : Int32) : (f_X4_isFull xpl) = 0 ∨ (f_X4_isFull xpl) = 1 := by
  unfold f_X4_isFull
  try dsimp only
  repeat (first | exact Or.inl rfl | exact Or.inr rfl | split)
def f_X4_append (xpl : Int32) (xpc : Nat → Int32) (q1 : Int32) : Int32 × (Nat → Int32) := (if xpl < 0 then (xpl, xpc) else (if 47 ≤ xpl then (xpl, xpc) else (xpl + 1, upd xpc (Int32.toNatClampNeg xpl) q1)))
set_option maxRecDepth 100000 in
set_option maxHeartbeats 4000000 in
theorem c_X4_append (l : Launch) (D : va_G) (cI cJ : ClassId) (ap apc : Nat) (xpl : Int32) (xpc : Nat → Int32) (q1 : Int32) : CV l yX4_append cX4_append 2 0 D cI cJ [.ref ap, .int q1] [(ap, .inr (4, [.ref apc, .int xpl])), (apc, .inl (cI, 47, .inl xpc))] [(ap, .inr (4, [.ref apc, .int ((f_X4_append xpl xpc q1).1)])), (apc, .inl (cI, 47, .inl ((f_X4_append xpl xpc q1).2)))] := by
  generalize hr : f_X4_append xpl xpc q1 = r
  refine fr_entryV (by decide) rfl ?_
  intro p e s m args below meth c A Q H locs hQ C hret hlk w ls hl
  have hx := C.1
  have hb := C.2.1
  have hl : lv_has ls 2 [(0, .ref ap), (1, .int q1)] := hl
  have hr : (if xpl < 0 then (xpl, xpc) else (if 47 ≤ xpl then (xpl, xpc) else (xpl + 1, upd xpc (Int32.toNatClampNeg xpl) q1))) = r := hr
  refine lv_aload_n hx hb dX4_append_0 rfl (lv_at hl 0 rfl) ?_
  refine fr_get C w fg_X4_15 0 rfl rfl dX4_append_1 ?_
  refine lv_if_lt (tgt := 36) hx hb dX4_append_4 (by decide) (fun c4_1 => ?_) (fun c4_1 => ?_)
  · have hr := (if_pos c4_1).symm.trans hr
    subst hr hQ
    exact fr_vret C hret hlk w rfl dX4_append_36
  · have hr := (if_neg c4_1).symm.trans hr
    refine lv_aload_n hx hb dX4_append_7 rfl (lv_at hl 0 rfl) ?_
    refine fr_get C w fg_X4_15 0 rfl rfl dX4_append_8 ?_
    refine lv_bipush (v := 47) hx hb dX4_append_11 (by decide) ?_
    refine lv_icmp_ge (tgt := 36) hx hb dX4_append_13 (by decide) (fun c13_2 => ?_) (fun c13_2 => ?_)
    · have hr := (if_pos c13_2).symm.trans hr
      subst hr hQ
      exact fr_vret C hret hlk w rfl dX4_append_36
    · have hr := (if_neg c13_2).symm.trans hr
      refine lv_aload_n hx hb dX4_append_16 rfl (lv_at hl 0 rfl) ?_
      refine fr_get C w fg_X4_9 0 rfl rfl dX4_append_17 ?_
      refine lv_aload_n hx hb dX4_append_20 rfl (lv_at hl 0 rfl) ?_
      refine fr_get C w fg_X4_15 0 rfl rfl dX4_append_21 ?_
      refine lv_iload_n hx hb dX4_append_24 rfl (lv_at hl 1 rfl) ?_
      refine fr_iast C w 1 rfl (vi_guard (by assumption) (by assumption) (by decide)) (ws' := [(ap, .inr (4, [.ref apc, .int xpl])), (apc, .inl (cI, 47, .inl (upd xpc (Int32.toNatClampNeg xpl) q1)))]) rfl dX4_append_25 (fun H locs w => ?_)
      refine lv_aload_n hx hb dX4_append_26 rfl (lv_at hl 0 rfl) ?_
      refine lv_dup hx hb dX4_append_27 rfl ?_
      refine fr_get C w fg_X4_15 0 rfl rfl dX4_append_28 ?_
      refine lv_iconst (v := 1) hx hb dX4_append_31 (by decide) ?_
      refine lv_iadd hx hb dX4_append_32 ?_
      refine fr_put C w fp_X4_15 0 rfl rfl rfl rfl (ws' := [(ap, .inr (4, [.ref apc, .int (xpl + 1)])), (apc, .inl (cI, 47, .inl (upd xpc (Int32.toNatClampNeg xpl) q1)))]) rfl dX4_append_33 (fun H locs w => ?_)
      subst hr hQ
      exact fr_vret C hret hlk w rfl dX4_append_36
def f_X4_empty  : Int32 := 0
set_option maxRecDepth 100000 in
set_option maxHeartbeats 4000000 in
theorem c_X4_empty (l : Launch) (D : va_G) (cI cJ : ClassId) (ap apc : Nat) (xpl : Int32) (xpc : Nat → Int32)  : CV l yX4_empty cX4_empty 1 0 D cI cJ [.ref ap] [(ap, .inr (4, [.ref apc, .int xpl])), (apc, .inl (cI, 47, .inl xpc))] [(ap, .inr (4, [.ref apc, .int f_X4_empty])), (apc, .inl (cI, 47, .inl xpc))] := by
  generalize hr : f_X4_empty = r
  refine fr_entryV (by decide) rfl ?_
  intro p e s m args below meth c A Q H locs hQ C hret hlk w ls hl
  have hx := C.1
  have hb := C.2.1
  have hl : lv_has ls 1 [(0, .ref ap)] := hl
  have hr : 0 = r := hr
  refine lv_aload_n hx hb dX4_empty_0 rfl (lv_at hl 0 rfl) ?_
  refine lv_iconst (v := 0) hx hb dX4_empty_1 (by decide) ?_
  refine fr_put C w fp_X4_15 0 rfl rfl rfl rfl (ws' := [(ap, .inr (4, [.ref apc, .int 0])), (apc, .inl (cI, 47, .inl xpc))]) rfl dX4_empty_2 (fun H locs w => ?_)
  subst hr hQ
  exact fr_vret C hret hlk w rfl dX4_empty_5
def f_X4_codeAt (xpl : Int32) (xpc : Nat → Int32) (q1 : Int32) : Int32 := (if q1 < 0 then 0 else (if xpl ≤ q1 then 0 else (if 47 ≤ q1 then 0 else xpc (Int32.toNatClampNeg q1))))
set_option maxRecDepth 100000 in
set_option maxHeartbeats 4000000 in
theorem c_X4_codeAt (l : Launch) (D : va_G) (cI cJ : ClassId) (ap apc : Nat) (xpl : Int32) (xpc : Nat → Int32) (q1 : Int32) : CI l yX4_codeAt cX4_codeAt 2 .int 0 D cI cJ [.ref ap, .int q1] [(ap, .inr (4, [.ref apc, .int xpl])), (apc, .inl (cI, 47, .inl xpc))] [(ap, .inr (4, [.ref apc, .int xpl])), (apc, .inl (cI, 47, .inl xpc))] (f_X4_codeAt xpl xpc q1) := by
  generalize hr : f_X4_codeAt xpl xpc q1 = r
  refine fr_entryI (by decide) rfl ?_
  intro p e s m args below meth c A Q H locs hQ C hret hlk w ls hl
  have hx := C.1
  have hb := C.2.1
  have hl : lv_has ls 2 [(0, .ref ap), (1, .int q1)] := hl
  have hr : (if q1 < 0 then 0 else (if xpl ≤ q1 then 0 else (if 47 ≤ q1 then 0 else xpc (Int32.toNatClampNeg q1)))) = r := hr
  refine lv_iload_n hx hb dX4_codeAt_0 rfl (lv_at hl 1 rfl) ?_
  refine lv_if_lt (tgt := 27) hx hb dX4_codeAt_1 (by decide) (fun c1_1 => ?_) (fun c1_1 => ?_)
  · have hr := (if_pos c1_1).symm.trans hr
    refine lv_iconst (v := 0) hx hb dX4_codeAt_27 (by decide) ?_
    subst hr hQ
    exact fr_iret (W0 := []) C hret hlk w rfl rfl rfl dX4_codeAt_28
  · have hr := (if_neg c1_1).symm.trans hr
    refine lv_iload_n hx hb dX4_codeAt_4 rfl (lv_at hl 1 rfl) ?_
    refine lv_aload_n hx hb dX4_codeAt_5 rfl (lv_at hl 0 rfl) ?_
    refine fr_get C w fg_X4_15 0 rfl rfl dX4_codeAt_6 ?_
    refine lv_icmp_ge (tgt := 27) hx hb dX4_codeAt_9 (by decide) (fun c9_2 => ?_) (fun c9_2 => ?_)
    · have hr := (if_pos c9_2).symm.trans hr
      refine lv_iconst (v := 0) hx hb dX4_codeAt_27 (by decide) ?_
      subst hr hQ
      exact fr_iret (W0 := []) C hret hlk w rfl rfl rfl dX4_codeAt_28
    · have hr := (if_neg c9_2).symm.trans hr
      refine lv_iload_n hx hb dX4_codeAt_12 rfl (lv_at hl 1 rfl) ?_
      refine lv_bipush (v := 47) hx hb dX4_codeAt_13 (by decide) ?_
      refine lv_icmp_ge (tgt := 27) hx hb dX4_codeAt_15 (by decide) (fun c15_3 => ?_) (fun c15_3 => ?_)
      · have hr := (if_pos c15_3).symm.trans hr
        refine lv_iconst (v := 0) hx hb dX4_codeAt_27 (by decide) ?_
        subst hr hQ
        exact fr_iret (W0 := []) C hret hlk w rfl rfl rfl dX4_codeAt_28
      · have hr := (if_neg c15_3).symm.trans hr
        refine lv_aload_n hx hb dX4_codeAt_18 rfl (lv_at hl 0 rfl) ?_
        refine fr_get C w fg_X4_9 0 rfl rfl dX4_codeAt_19 ?_
        refine lv_iload_n hx hb dX4_codeAt_22 rfl (lv_at hl 1 rfl) ?_
        refine fr_iald C w 1 rfl (vi_guard (by assumption) (by assumption) (by decide)) dX4_codeAt_23 ?_
        refine lv_goto (tgt := 28) hx hb dX4_codeAt_24 (by decide) ?_
        subst hr hQ
        exact fr_iret (W0 := []) C hret hlk w rfl rfl rfl dX4_codeAt_28
end
section
theorem mw_7_0 : Cond.fieldLink RX5 42 "MudShares$Reader" "source" "I" ∈ wsL_law := ck_7 _ (List.mem_of_getElem? (i := 0) rfl)
theorem mw_7_1 : Cond.fieldLink RX5 45 "MudShares$Reader" "tracer" "I" ∈ wsL_law := ck_7 _ (List.mem_of_getElem? (i := 1) rfl)
theorem mw_2_18 : Cond.fieldLink RX5 9 "MudShares$Reader" "draft" "[I" ∈ wsL_law := ck_2 _ (List.mem_of_getElem? (i := 18) rfl)
theorem mw_7_2 : Cond.fieldLink RX5 48 "MudShares$Reader" "width" "I" ∈ wsL_law := ck_7 _ (List.mem_of_getElem? (i := 2) rfl)
theorem mw_7_3 : Cond.fieldLink RX5 32 "MudShares$Reader" "number" "I" ∈ wsL_law := ck_7 _ (List.mem_of_getElem? (i := 3) rfl)
theorem mw_7_16 : Cond.methodLink RX5 39 yX5_keepNumber ∈ wsL_law := ck_7 _ (List.mem_of_getElem? (i := 16) rfl)
theorem mw_7_19 : Cond.code yX5_keepNumber cX5_keepNumber 2 none ∈ wsL_law := ck_7 _ (List.mem_of_getElem? (i := 19) rfl)
theorem mw_1_18 : Cond.initialized RX5 ∈ wsL_law := ck_1 _ (List.mem_of_getElem? (i := 18) rfl)
theorem mw_7_17 : Cond.instanceMethod yX5_keepNumber ∈ wsL_law := ck_7 _ (List.mem_of_getElem? (i := 17) rfl)
theorem mw_7_18 : Cond.selects RX5 yX5_keepNumber yX5_keepNumber ∈ wsL_law := ck_7 _ (List.mem_of_getElem? (i := 18) rfl)
theorem mw_8_0 : Cond.methodLink RX5 35 yX5_isLastTracer ∈ wsL_law := ck_8 _ (List.mem_of_getElem? (i := 0) rfl)
theorem mw_8_3 : Cond.code yX5_isLastTracer cX5_isLastTracer 1 (some .boolean) ∈ wsL_law := ck_8 _ (List.mem_of_getElem? (i := 3) rfl)
theorem mw_8_1 : Cond.instanceMethod yX5_isLastTracer ∈ wsL_law := ck_8 _ (List.mem_of_getElem? (i := 1) rfl)
theorem mw_8_2 : Cond.selects RX5 yX5_isLastTracer yX5_isLastTracer ∈ wsL_law := ck_8 _ (List.mem_of_getElem? (i := 2) rfl)
theorem mw_7_12 : Cond.methodLink RX5 51 yX5_takesComma ∈ wsL_law := ck_7 _ (List.mem_of_getElem? (i := 12) rfl)
theorem mw_7_15 : Cond.code yX5_takesComma cX5_takesComma 2 (some .boolean) ∈ wsL_law := ck_7 _ (List.mem_of_getElem? (i := 15) rfl)
theorem mw_7_13 : Cond.instanceMethod yX5_takesComma ∈ wsL_law := ck_7 _ (List.mem_of_getElem? (i := 13) rfl)
theorem mw_7_14 : Cond.selects RX5 yX5_takesComma yX5_takesComma ∈ wsL_law := ck_7 _ (List.mem_of_getElem? (i := 14) rfl)
theorem mw_7_20 : Cond.methodLink RX5 54 yX5_takesSemicolon ∈ wsL_law := ck_7 _ (List.mem_of_getElem? (i := 20) rfl)
theorem mw_7_23 : Cond.code yX5_takesSemicolon cX5_takesSemicolon 1 (some .boolean) ∈ wsL_law := ck_7 _ (List.mem_of_getElem? (i := 23) rfl)
theorem mw_7_21 : Cond.instanceMethod yX5_takesSemicolon ∈ wsL_law := ck_7 _ (List.mem_of_getElem? (i := 21) rfl)
theorem mw_7_22 : Cond.selects RX5 yX5_takesSemicolon yX5_takesSemicolon ∈ wsL_law := ck_7 _ (List.mem_of_getElem? (i := 22) rfl)
theorem mw_8_4 : Cond.methodLink RX5 57 yX5_takesFigure ∈ wsL_law := ck_8 _ (List.mem_of_getElem? (i := 4) rfl)
theorem mw_8_7 : Cond.code yX5_takesFigure cX5_takesFigure 3 (some .boolean) ∈ wsL_law := ck_8 _ (List.mem_of_getElem? (i := 7) rfl)
theorem mw_8_5 : Cond.instanceMethod yX5_takesFigure ∈ wsL_law := ck_8 _ (List.mem_of_getElem? (i := 5) rfl)
theorem mw_8_6 : Cond.selects RX5 yX5_takesFigure yX5_takesFigure ∈ wsL_law := ck_8 _ (List.mem_of_getElem? (i := 6) rfl)
theorem mw_6_20 : Cond.methodLink RX5 15 yX5_start ∈ wsL_law := ck_6 _ (List.mem_of_getElem? (i := 20) rfl)
theorem mw_6_23 : Cond.code yX5_start cX5_start 2 none ∈ wsL_law := ck_6 _ (List.mem_of_getElem? (i := 23) rfl)
theorem mw_6_21 : Cond.instanceMethod yX5_start ∈ wsL_law := ck_6 _ (List.mem_of_getElem? (i := 21) rfl)
theorem mw_6_22 : Cond.selects RX5 yX5_start yX5_start ∈ wsL_law := ck_6 _ (List.mem_of_getElem? (i := 22) rfl)
theorem mw_6_19 : Cond.fieldLink RX5 18 "MudShares$Page" "length" "I" ∈ wsL_law := ck_6 _ (List.mem_of_getElem? (i := 19) rfl)
theorem mw_7_4 : Cond.methodLink RX5 24 yX4_codeAt ∈ wsL_law := ck_7 _ (List.mem_of_getElem? (i := 4) rfl)
theorem mw_7_7 : Cond.code yX4_codeAt cX4_codeAt 2 (some .int) ∈ wsL_law := ck_7 _ (List.mem_of_getElem? (i := 7) rfl)
theorem mw_1_14 : Cond.initialized RX4 ∈ wsL_law := ck_1 _ (List.mem_of_getElem? (i := 14) rfl)
theorem mw_7_5 : Cond.instanceMethod yX4_codeAt ∈ wsL_law := ck_7 _ (List.mem_of_getElem? (i := 5) rfl)
theorem mw_7_6 : Cond.selects RX4 yX4_codeAt yX4_codeAt ∈ wsL_law := ck_7 _ (List.mem_of_getElem? (i := 6) rfl)
theorem mw_7_8 : Cond.methodLink RX5 28 yX5_takes ∈ wsL_law := ck_7 _ (List.mem_of_getElem? (i := 8) rfl)
theorem mw_7_11 : Cond.code yX5_takes cX5_takes 2 (some .boolean) ∈ wsL_law := ck_7 _ (List.mem_of_getElem? (i := 11) rfl)
theorem mw_7_9 : Cond.instanceMethod yX5_takes ∈ wsL_law := ck_7 _ (List.mem_of_getElem? (i := 9) rfl)
theorem mw_7_10 : Cond.selects RX5 yX5_takes yX5_takes ∈ wsL_law := ck_7 _ (List.mem_of_getElem? (i := 10) rfl)
theorem fg_X5_42 : FG RX5 42 5 1 := ⟨RX5, TX5, 5, rfl, by decide, inlX5, mw_7_0⟩
theorem fg_X5_45 : FG RX5 45 5 2 := ⟨RX5, TX5, 5, rfl, by decide, inlX5, mw_7_1⟩
theorem fg_X5_9 : FG RX5 9 5 0 := ⟨RX5, TX5, 5, rfl, by decide, inlX5, mw_2_18⟩
theorem fp_X5_42 : FP RX5 42 5 1 .int := ⟨RX5, TX5, 5, tyX5, rfl, by decide, inlX5, mw_7_0, tyX5_ok, nmX5, rfl, by decide +kernel⟩
theorem fp_X5_45 : FP RX5 45 5 2 .int := ⟨RX5, TX5, 5, tyX5, rfl, by decide, inlX5, mw_7_1, tyX5_ok, nmX5, rfl, by decide +kernel⟩
theorem fp_X5_48 : FP RX5 48 5 3 .int := ⟨RX5, TX5, 5, tyX5, rfl, by decide, inlX5, mw_7_2, tyX5_ok, nmX5, rfl, by decide +kernel⟩
theorem fp_X5_32 : FP RX5 32 5 4 .int := ⟨RX5, TX5, 5, tyX5, rfl, by decide, inlX5, mw_7_3, tyX5_ok, nmX5, rfl, by decide +kernel⟩
theorem fg_X5_32 : FG RX5 32 5 4 := ⟨RX5, TX5, 5, rfl, by decide, inlX5, mw_7_3⟩
theorem fg_X5_48 : FG RX5 48 5 3 := ⟨RX5, TX5, 5, rfl, by decide, inlX5, mw_7_2⟩
theorem fg_X5_18 : FG RX5 18 4 1 := ⟨RX4, TX4, 2, rfl, by decide, inlX4, mw_6_19⟩
theorem kf_X5_keepNumber : KV RX5 yX5_keepNumber cX5_keepNumber 2 none 0 := ⟨mw_7_19, mw_7_17, mw_7_18, mw_1_18, by decide, by decide, by decide +kernel⟩
theorem kf_X5_isLastTracer : KV RX5 yX5_isLastTracer cX5_isLastTracer 1 (some .boolean) 0 := ⟨mw_8_3, mw_8_1, mw_8_2, mw_1_18, by decide, by decide, by decide +kernel⟩
theorem kf_X5_takesComma : KV RX5 yX5_takesComma cX5_takesComma 2 (some .boolean) 0 := ⟨mw_7_15, mw_7_13, mw_7_14, mw_1_18, by decide, by decide, by decide +kernel⟩
theorem kf_X5_takesSemicolon : KV RX5 yX5_takesSemicolon cX5_takesSemicolon 1 (some .boolean) 0 := ⟨mw_7_23, mw_7_21, mw_7_22, mw_1_18, by decide, by decide, by decide +kernel⟩
theorem kf_X5_takesFigure : KV RX5 yX5_takesFigure cX5_takesFigure 3 (some .boolean) 1 := ⟨mw_8_7, mw_8_5, mw_8_6, mw_1_18, by decide, by decide, by decide +kernel⟩
theorem kf_X5_start : KV RX5 yX5_start cX5_start 2 none 0 := ⟨mw_6_23, mw_6_21, mw_6_22, mw_1_18, by decide, by decide, by decide +kernel⟩
theorem kf_X4_codeAt : KV RX4 yX4_codeAt cX4_codeAt 2 (some .int) 1 := ⟨mw_7_7, mw_7_5, mw_7_6, mw_1_14, by decide, by decide, by decide +kernel⟩
theorem kf_X5_takes : KV RX5 yX5_takes cX5_takes 2 (some .boolean) 1 := ⟨mw_7_11, mw_7_9, mw_7_10, mw_1_18, by decide, by decide, by decide +kernel⟩
def f_X5_sourcesRead (xso : Int32) : Int32 := xso + 1
set_option maxRecDepth 100000 in
set_option maxHeartbeats 4000000 in
theorem c_X5_sourcesRead (l : Launch) (D : va_G) (cI cJ : ClassId) (ar ard : Nat) (xso : Int32) (xtr : Int32) (xwi : Int32) (xnu : Int32) (xdr : Nat → Int32)  : CI l yX5_sourcesRead cX5_sourcesRead 1 .int 0 D cI cJ [.ref ar] [(ar, .inr (5, [.ref ard, .int xso, .int xtr, .int xwi, .int xnu])), (ard, .inl (cI, 16, .inl xdr))] [(ar, .inr (5, [.ref ard, .int xso, .int xtr, .int xwi, .int xnu])), (ard, .inl (cI, 16, .inl xdr))] (f_X5_sourcesRead xso) := by
  generalize hr : f_X5_sourcesRead xso = r
  refine fr_entryI (by decide) rfl ?_
  intro p e s m args below meth c A Q H locs hQ C hret hlk w ls hl
  have hx := C.1
  have hb := C.2.1
  have hl : lv_has ls 1 [(0, .ref ar)] := hl
  have hr : xso + 1 = r := hr
  refine lv_aload_n hx hb dX5_sourcesRead_0 rfl (lv_at hl 0 rfl) ?_
  refine fr_get C w fg_X5_42 0 rfl rfl dX5_sourcesRead_1 ?_
  refine lv_iconst (v := 1) hx hb dX5_sourcesRead_4 (by decide) ?_
  refine lv_iadd hx hb dX5_sourcesRead_5 ?_
  subst hr hQ
  exact fr_iret (W0 := []) C hret hlk w rfl rfl rfl dX5_sourcesRead_6
def f_X5_tracersRead (xtr : Int32) : Int32 := xtr + 1
set_option maxRecDepth 100000 in
set_option maxHeartbeats 4000000 in
theorem c_X5_tracersRead (l : Launch) (D : va_G) (cI cJ : ClassId) (ar ard : Nat) (xso : Int32) (xtr : Int32) (xwi : Int32) (xnu : Int32) (xdr : Nat → Int32)  : CI l yX5_tracersRead cX5_tracersRead 1 .int 0 D cI cJ [.ref ar] [(ar, .inr (5, [.ref ard, .int xso, .int xtr, .int xwi, .int xnu])), (ard, .inl (cI, 16, .inl xdr))] [(ar, .inr (5, [.ref ard, .int xso, .int xtr, .int xwi, .int xnu])), (ard, .inl (cI, 16, .inl xdr))] (f_X5_tracersRead xtr) := by
  generalize hr : f_X5_tracersRead xtr = r
  refine fr_entryI (by decide) rfl ?_
  intro p e s m args below meth c A Q H locs hQ C hret hlk w ls hl
  have hx := C.1
  have hb := C.2.1
  have hl : lv_has ls 1 [(0, .ref ar)] := hl
  have hr : xtr + 1 = r := hr
  refine lv_aload_n hx hb dX5_tracersRead_0 rfl (lv_at hl 0 rfl) ?_
  refine fr_get C w fg_X5_45 0 rfl rfl dX5_tracersRead_1 ?_
  refine lv_iconst (v := 1) hx hb dX5_tracersRead_4 (by decide) ?_
  refine lv_iadd hx hb dX5_tracersRead_5 ?_
  subst hr hQ
  exact fr_iret (W0 := []) C hret hlk w rfl rfl rfl dX5_tracersRead_6
def f_X5_draftOf (xdr : Nat → Int32) (q1 : Int32) (q2 : Int32) : Int32 := (if ((q1 * 4) + q2) < 0 then 0 else (if 16 ≤ ((q1 * 4) + q2) then 0 else xdr (Int32.toNatClampNeg ((q1 * 4) + q2))))
set_option maxRecDepth 100000 in
set_option maxHeartbeats 4000000 in
theorem c_X5_draftOf (l : Launch) (D : va_G) (cI cJ : ClassId) (ar ard : Nat) (xso : Int32) (xtr : Int32) (xwi : Int32) (xnu : Int32) (xdr : Nat → Int32) (q1 : Int32) (q2 : Int32) : CI l yX5_draftOf cX5_draftOf 4 .int 0 D cI cJ [.ref ar, .int q1, .int q2] [(ar, .inr (5, [.ref ard, .int xso, .int xtr, .int xwi, .int xnu])), (ard, .inl (cI, 16, .inl xdr))] [(ar, .inr (5, [.ref ard, .int xso, .int xtr, .int xwi, .int xnu])), (ard, .inl (cI, 16, .inl xdr))] (f_X5_draftOf xdr q1 q2) := by
  generalize hr : f_X5_draftOf xdr q1 q2 = r
  refine fr_entryI (by decide) rfl ?_
  intro p e s m args below meth c A Q H locs hQ C hret hlk w ls hl
  have hx := C.1
  have hb := C.2.1
  have hl : lv_has ls 4 [(0, .ref ar), (1, .int q1), (2, .int q2)] := hl
  have hr : (if ((q1 * 4) + q2) < 0 then 0 else (if 16 ≤ ((q1 * 4) + q2) then 0 else xdr (Int32.toNatClampNeg ((q1 * 4) + q2)))) = r := hr
  refine lv_iload_n hx hb dX5_draftOf_0 rfl (lv_at hl 1 rfl) ?_
  refine lv_iconst (v := 4) hx hb dX5_draftOf_1 (by decide) ?_
  refine lv_imul hx hb dX5_draftOf_2 ?_
  refine lv_iload_n hx hb dX5_draftOf_3 rfl (lv_at hl 2 rfl) ?_
  refine lv_iadd hx hb dX5_draftOf_4 ?_
  refine lv_istore_n (lv' := [(3, .int ((q1 * 4) + q2)), (0, .ref ar), (1, .int q1), (2, .int q2)]) hx hb dX5_draftOf_5 rfl hl (by decide) rfl (fun ls hl => ?_)
  refine lv_iload_n hx hb dX5_draftOf_6 rfl (lv_at hl 0 rfl) ?_
  refine lv_if_lt (tgt := 25) hx hb dX5_draftOf_7 (by decide) (fun c7_1 => ?_) (fun c7_1 => ?_)
  · have hr := (if_pos c7_1).symm.trans hr
    refine lv_iconst (v := 0) hx hb dX5_draftOf_25 (by decide) ?_
    subst hr hQ
    exact fr_iret (W0 := []) C hret hlk w rfl rfl rfl dX5_draftOf_26
  · have hr := (if_neg c7_1).symm.trans hr
    refine lv_iload_n hx hb dX5_draftOf_10 rfl (lv_at hl 0 rfl) ?_
    refine lv_bipush (v := 16) hx hb dX5_draftOf_11 (by decide) ?_
    refine lv_icmp_ge (tgt := 25) hx hb dX5_draftOf_13 (by decide) (fun c13_2 => ?_) (fun c13_2 => ?_)
    · have hr := (if_pos c13_2).symm.trans hr
      refine lv_iconst (v := 0) hx hb dX5_draftOf_25 (by decide) ?_
      subst hr hQ
      exact fr_iret (W0 := []) C hret hlk w rfl rfl rfl dX5_draftOf_26
    · have hr := (if_neg c13_2).symm.trans hr
      refine lv_aload_n hx hb dX5_draftOf_16 rfl (lv_at hl 1 rfl) ?_
      refine fr_get C w fg_X5_9 0 rfl rfl dX5_draftOf_17 ?_
      refine lv_iload_n hx hb dX5_draftOf_20 rfl (lv_at hl 0 rfl) ?_
      refine fr_iald C w 1 rfl (vi_guard (by assumption) (by assumption) (by decide)) dX5_draftOf_21 ?_
      refine lv_goto (tgt := 26) hx hb dX5_draftOf_22 (by decide) ?_
      subst hr hQ
      exact fr_iret (W0 := []) C hret hlk w rfl rfl rfl dX5_draftOf_26
def L_X5_start_2  : Nat → Int32 → (Nat → Int32) → Int32 × (Nat → Int32)
  | 0, _, _ => (0, fun _ => 0)
  | n2 + 1, i1, w2 => (if 16 ≤ i1 then (i1, w2) else L_X5_start_2  n2 (i1 + 1) (upd w2 (Int32.toNatClampNeg i1) 0))
def f_X5_start (xdr : Nat → Int32) : Int32 × Int32 × Int32 × Int32 × (Nat → Int32) := ((fun (y2 : Int32 × (Nat → Int32)) => (0, 0, 0, (-1), y2.2)) (L_X5_start_2 17 0 xdr))
set_option maxRecDepth 100000 in
set_option maxHeartbeats 4000000 in
theorem c_X5_start (l : Launch) (D : va_G) (cI cJ : ClassId) (ar ard : Nat) (xso : Int32) (xtr : Int32) (xwi : Int32) (xnu : Int32) (xdr : Nat → Int32)  : CV l yX5_start cX5_start 2 0 D cI cJ [.ref ar] [(ar, .inr (5, [.ref ard, .int xso, .int xtr, .int xwi, .int xnu])), (ard, .inl (cI, 16, .inl xdr))] [(ar, .inr (5, [.ref ard, .int ((f_X5_start xdr).1), .int ((f_X5_start xdr).2.1), .int ((f_X5_start xdr).2.2.1), .int ((f_X5_start xdr).2.2.2.1)])), (ard, .inl (cI, 16, .inl ((f_X5_start xdr).2.2.2.2)))] := by
  generalize hr : f_X5_start xdr = r
  refine fr_entryV (by decide) rfl ?_
  intro p e s m args below meth c A Q H locs hQ C hret hlk w ls hl
  have hx := C.1
  have hb := C.2.1
  have hl : lv_has ls 2 [(0, .ref ar)] := hl
  have hr : ((fun (y2 : Int32 × (Nat → Int32)) => (0, 0, 0, (-1), y2.2)) (L_X5_start_2 17 0 xdr)) = r := hr
  refine lv_iconst (v := 0) hx hb dX5_start_0 (by decide) ?_
  refine lv_istore_n (lv' := [(1, .int 0), (0, .ref ar)]) hx hb dX5_start_1 rfl hl (by decide) rfl (fun ls hl => ?_)
  obtain ⟨y2, hy2⟩ : ∃ y, y = L_X5_start_2 17 0 xdr := ⟨_, rfl⟩
  have hr : (0, 0, 0, (-1), y2.2) = r := by rw [hy2]; exact hr
  have X2 : ∀ (H : Heap) (locs : List Loc), Wd D A s.heap H locs [(ar, .inr (5, [.ref ard, .int xso, .int xtr, .int xwi, .int xnu])), (ard, .inl (cI, 16, .inl y2.2))] → ∀ (ls : Array Slot), lv_has ls 2 [(0, .ref ar), (1, .int y2.1)] → W p l e (rl 0) s m args below meth c H locs 0 0 Q (F0 m 21 ls []) := by
    intro H locs w ls hl
    refine lv_aload_n hx hb dX5_start_21 rfl (lv_at hl 0 rfl) ?_
    refine lv_iconst (v := 0) hx hb dX5_start_22 (by decide) ?_
    refine fr_put C w fp_X5_42 0 rfl rfl rfl rfl (ws' := [(ar, .inr (5, [.ref ard, .int 0, .int xtr, .int xwi, .int xnu])), (ard, .inl (cI, 16, .inl y2.2))]) rfl dX5_start_23 (fun H locs w => ?_)
    refine lv_aload_n hx hb dX5_start_26 rfl (lv_at hl 0 rfl) ?_
    refine lv_iconst (v := 0) hx hb dX5_start_27 (by decide) ?_
    refine fr_put C w fp_X5_45 0 rfl rfl rfl rfl (ws' := [(ar, .inr (5, [.ref ard, .int 0, .int 0, .int xwi, .int xnu])), (ard, .inl (cI, 16, .inl y2.2))]) rfl dX5_start_28 (fun H locs w => ?_)
    refine lv_aload_n hx hb dX5_start_31 rfl (lv_at hl 0 rfl) ?_
    refine lv_iconst (v := 0) hx hb dX5_start_32 (by decide) ?_
    refine fr_put C w fp_X5_48 0 rfl rfl rfl rfl (ws' := [(ar, .inr (5, [.ref ard, .int 0, .int 0, .int 0, .int xnu])), (ard, .inl (cI, 16, .inl y2.2))]) rfl dX5_start_33 (fun H locs w => ?_)
    refine lv_aload_n hx hb dX5_start_36 rfl (lv_at hl 0 rfl) ?_
    refine lv_iconst (v := -1) hx hb dX5_start_37 (by decide) ?_
    refine fr_put C w fp_X5_32 0 rfl rfl rfl rfl (ws' := [(ar, .inr (5, [.ref ard, .int 0, .int 0, .int 0, .int (-1)])), (ard, .inl (cI, 16, .inl y2.2))]) rfl dX5_start_38 (fun H locs w => ?_)
    subst hr hQ
    exact fr_vret C hret hlk w rfl dX5_start_41
  have LP2 : ∀ (n2 : Nat) (k2 : Nat) (i1 : Int32) (w2 : Nat → Int32), i1 = nI k2 → k2 ≤ 16 → 16 < k2 + n2 → L_X5_start_2 n2 i1 w2 = y2 → ∀ (H : Heap) (locs : List Loc), Wd D A s.heap H locs [(ar, .inr (5, [.ref ard, .int xso, .int xtr, .int xwi, .int xnu])), (ard, .inl (cI, 16, .inl w2))] → ∀ (ls : Array Slot), lv_has ls 2 [(0, .ref ar), (1, .int i1)] → W p l e (rl 0) s m args below meth c H locs 0 0 Q (F0 m 2 ls []) := by
    clear hr
    intro n2
    induction n2 with
    | zero => intro k2 i1 w2 hk2 hkN2 hn2; exact absurd hn2 (by omega)
    | succ n2 ih2 =>
      intro k2 i1 w2 hk2 hkN2 hn2 hr H locs w ls hl
      have hr : (if 16 ≤ i1 then (i1, w2) else L_X5_start_2  n2 (i1 + 1) (upd w2 (Int32.toNatClampNeg i1) 0)) = y2 := hr
      refine lv_iload_n hx hb dX5_start_2 rfl (lv_at hl 1 rfl) ?_
      refine lv_bipush (v := 16) hx hb dX5_start_3 (by decide) ?_
      refine lv_icmp_ge (tgt := 21) hx hb dX5_start_5 (by decide) (fun c5_3 => ?_) (fun c5_3 => ?_)
      · have hr := (if_pos c5_3).symm.trans hr
        subst hr
        exact X2 H locs w ls (lv_sub hl [0, 1] rfl)
      · have hr := (if_neg c5_3).symm.trans hr
        have hkl2 := kl_of hk2 hkN2 (N := 16) (by decide) (by omega) c5_3
        refine lv_aload_n hx hb dX5_start_8 rfl (lv_at hl 0 rfl) ?_
        refine fr_get C w fg_X5_9 0 rfl rfl dX5_start_9 ?_
        refine lv_iload_n hx hb dX5_start_12 rfl (lv_at hl 1 rfl) ?_
        refine lv_iconst (v := 0) hx hb dX5_start_13 (by decide) ?_
        refine fr_iast C w 1 rfl (vi_ctr hk2 hkl2 (by decide) (by decide)) (ws' := [(ar, .inr (5, [.ref ard, .int xso, .int xtr, .int xwi, .int xnu])), (ard, .inl (cI, 16, .inl (upd w2 (Int32.toNatClampNeg i1) 0)))]) rfl dX5_start_14 (fun H locs w => ?_)
        refine lv_iinc (v := i1 + 1) (lv' := [(1, .int (i1 + 1)), (0, .ref ar)]) hx hb dX5_start_15 hl (k := 1) rfl rfl (by decide) rfl (fun ls hl => ?_)
        refine lv_goto (tgt := 2) hx hb dX5_start_18 (by decide) ?_
        exact ih2 (k2 + 1) (i1 + 1) (upd w2 (Int32.toNatClampNeg i1) 0) (by rw [hk2]; exact nI_1 k2) (by omega) (by omega) hr H locs w ls (lv_sub hl [1, 0] rfl)
  exact LP2 17 0 0 xdr (by decide) (by omega) (by omega) hy2.symm H locs w ls (lv_sub hl [1, 0] rfl)
def f_X5_keepNumber (xso : Int32) (xtr : Int32) (xnu : Int32) (xdr : Nat → Int32) : Int32 × (Nat → Int32) := ((fun (v3 : Nat → Int32) => ((-1), v3)) (if ((xso * 4) + xtr) < 0 then xdr else (if 16 ≤ ((xso * 4) + xtr) then xdr else upd xdr (Int32.toNatClampNeg ((xso * 4) + xtr)) xnu)))
set_option maxRecDepth 100000 in
set_option maxHeartbeats 4000000 in
theorem c_X5_keepNumber (l : Launch) (D : va_G) (cI cJ : ClassId) (ar ard : Nat) (xso : Int32) (xtr : Int32) (xwi : Int32) (xnu : Int32) (xdr : Nat → Int32)  : CV l yX5_keepNumber cX5_keepNumber 2 0 D cI cJ [.ref ar] [(ar, .inr (5, [.ref ard, .int xso, .int xtr, .int xwi, .int xnu])), (ard, .inl (cI, 16, .inl xdr))] [(ar, .inr (5, [.ref ard, .int xso, .int xtr, .int xwi, .int ((f_X5_keepNumber xso xtr xnu xdr).1)])), (ard, .inl (cI, 16, .inl ((f_X5_keepNumber xso xtr xnu xdr).2)))] := by
  generalize hr : f_X5_keepNumber xso xtr xnu xdr = r
  refine fr_entryV (by decide) rfl ?_
  intro p e s m args below meth c A Q H locs hQ C hret hlk w ls hl
  have hx := C.1
  have hb := C.2.1
  have hl : lv_has ls 2 [(0, .ref ar)] := hl
  have hr : ((fun (v3 : Nat → Int32) => ((-1), v3)) (if ((xso * 4) + xtr) < 0 then xdr else (if 16 ≤ ((xso * 4) + xtr) then xdr else upd xdr (Int32.toNatClampNeg ((xso * 4) + xtr)) xnu))) = r := hr
  refine lv_aload_n hx hb dX5_keepNumber_0 rfl (lv_at hl 0 rfl) ?_
  refine fr_get C w fg_X5_42 0 rfl rfl dX5_keepNumber_1 ?_
  refine lv_iconst (v := 4) hx hb dX5_keepNumber_4 (by decide) ?_
  refine lv_imul hx hb dX5_keepNumber_5 ?_
  refine lv_aload_n hx hb dX5_keepNumber_6 rfl (lv_at hl 0 rfl) ?_
  refine fr_get C w fg_X5_45 0 rfl rfl dX5_keepNumber_7 ?_
  refine lv_iadd hx hb dX5_keepNumber_10 ?_
  refine lv_istore_n (lv' := [(1, .int ((xso * 4) + xtr)), (0, .ref ar)]) hx hb dX5_keepNumber_11 rfl hl (by decide) rfl (fun ls hl => ?_)
  refine lv_iload_n hx hb dX5_keepNumber_12 rfl (lv_at hl 0 rfl) ?_
  have J32_4 : ∀ (v3 : Nat → Int32), v3 = (if ((xso * 4) + xtr) < 0 then xdr else (if 16 ≤ ((xso * 4) + xtr) then xdr else upd xdr (Int32.toNatClampNeg ((xso * 4) + xtr)) xnu)) → ∀ (H : Heap) (locs : List Loc), Wd D A s.heap H locs [(ar, .inr (5, [.ref ard, .int xso, .int xtr, .int xwi, .int xnu])), (ard, .inl (cI, 16, .inl v3))] → W p l e (rl 0) s m args below meth c H locs 0 0 Q (F0 m 32 ls []) := by
    intro v3 ev3 H locs w
    have hr : ((-1), v3) = r := by subst ev3; exact hr
    refine lv_aload_n hx hb dX5_keepNumber_32 rfl (lv_at hl 1 rfl) ?_
    refine lv_iconst (v := -1) hx hb dX5_keepNumber_33 (by decide) ?_
    refine fr_put C w fp_X5_32 0 rfl rfl rfl rfl (ws' := [(ar, .inr (5, [.ref ard, .int xso, .int xtr, .int xwi, .int (-1)])), (ard, .inl (cI, 16, .inl v3))]) rfl dX5_keepNumber_34 (fun H locs w => ?_)
    subst hr hQ
    exact fr_vret C hret hlk w rfl dX5_keepNumber_37
  refine lv_if_lt (tgt := 32) hx hb dX5_keepNumber_13 (by decide) (fun c13_1 => ?_) (fun c13_1 => ?_)
  · exact J32_4 xdr (by rw [if_pos c13_1]) _ _ w
  · refine lv_iload_n hx hb dX5_keepNumber_16 rfl (lv_at hl 0 rfl) ?_
    refine lv_bipush (v := 16) hx hb dX5_keepNumber_17 (by decide) ?_
    refine lv_icmp_ge (tgt := 32) hx hb dX5_keepNumber_19 (by decide) (fun c19_2 => ?_) (fun c19_2 => ?_)
    · skip
      exact J32_4 xdr (by rw [if_neg c13_1, if_pos c19_2]) _ _ w
    · refine lv_aload_n hx hb dX5_keepNumber_22 rfl (lv_at hl 1 rfl) ?_
      refine fr_get C w fg_X5_9 0 rfl rfl dX5_keepNumber_23 ?_
      refine lv_iload_n hx hb dX5_keepNumber_26 rfl (lv_at hl 0 rfl) ?_
      refine lv_aload_n hx hb dX5_keepNumber_27 rfl (lv_at hl 1 rfl) ?_
      refine fr_get C w fg_X5_32 0 rfl rfl dX5_keepNumber_28 ?_
      refine fr_iast C w 1 rfl (vi_guard (by assumption) (by assumption) (by decide)) (ws' := [(ar, .inr (5, [.ref ard, .int xso, .int xtr, .int xwi, .int xnu])), (ard, .inl (cI, 16, .inl (upd xdr (Int32.toNatClampNeg ((xso * 4) + xtr)) xnu)))]) rfl dX5_keepNumber_31 (fun H locs w => ?_)
      exact J32_4 (upd xdr (Int32.toNatClampNeg ((xso * 4) + xtr)) xnu) (by rw [if_neg c13_1, if_neg c19_2]) _ _ w
def f_X5_isLastTracer (xso : Int32) (xtr : Int32) (xwi : Int32) : Int32 := (if xso = 0 then 1 else (if (xtr + 1) = xwi then 1 else 0))
set_option maxRecDepth 100000 in
set_option maxHeartbeats 4000000 in
theorem c_X5_isLastTracer (l : Launch) (D : va_G) (cI cJ : ClassId) (ar ard : Nat) (xso : Int32) (xtr : Int32) (xwi : Int32) (xnu : Int32) (xdr : Nat → Int32)  : CI l yX5_isLastTracer cX5_isLastTracer 1 .boolean 0 D cI cJ [.ref ar] [(ar, .inr (5, [.ref ard, .int xso, .int xtr, .int xwi, .int xnu])), (ard, .inl (cI, 16, .inl xdr))] [(ar, .inr (5, [.ref ard, .int xso, .int xtr, .int xwi, .int xnu])), (ard, .inl (cI, 16, .inl xdr))] (f_X5_isLastTracer xso xtr xwi) := by
  generalize hr : f_X5_isLastTracer xso xtr xwi = r
  refine fr_entryI (by decide) rfl ?_
  intro p e s m args below meth c A Q H locs hQ C hret hlk w ls hl
  have hx := C.1
  have hb := C.2.1
  have hl : lv_has ls 1 [(0, .ref ar)] := hl
  have hr : (if xso = 0 then 1 else (if (xtr + 1) = xwi then 1 else 0)) = r := hr
  refine lv_aload_n hx hb dX5_isLastTracer_0 rfl (lv_at hl 0 rfl) ?_
  refine fr_get C w fg_X5_42 0 rfl rfl dX5_isLastTracer_1 ?_
  refine lv_if_eq (tgt := 20) hx hb dX5_isLastTracer_4 (by decide) (fun c4_1 => ?_) (fun c4_1 => ?_)
  · have hr := (if_pos c4_1).symm.trans hr
    refine lv_iconst (v := 1) hx hb dX5_isLastTracer_20 (by decide) ?_
    refine lv_goto (tgt := 25) hx hb dX5_isLastTracer_21 (by decide) ?_
    subst hr hQ
    exact fr_iret (W0 := []) C hret hlk w rfl rfl rfl dX5_isLastTracer_25
  · have hr := (if_neg c4_1).symm.trans hr
    refine lv_aload_n hx hb dX5_isLastTracer_7 rfl (lv_at hl 0 rfl) ?_
    refine fr_get C w fg_X5_45 0 rfl rfl dX5_isLastTracer_8 ?_
    refine lv_iconst (v := 1) hx hb dX5_isLastTracer_11 (by decide) ?_
    refine lv_iadd hx hb dX5_isLastTracer_12 ?_
    refine lv_aload_n hx hb dX5_isLastTracer_13 rfl (lv_at hl 0 rfl) ?_
    refine fr_get C w fg_X5_48 0 rfl rfl dX5_isLastTracer_14 ?_
    refine lv_icmp_ne (tgt := 24) hx hb dX5_isLastTracer_17 (by decide) (fun c17_2 => ?_) (fun c17_2 => ?_)
    · have hr := (if_neg c17_2).symm.trans hr
      refine lv_iconst (v := 0) hx hb dX5_isLastTracer_24 (by decide) ?_
      subst hr hQ
      exact fr_iret (W0 := []) C hret hlk w rfl rfl rfl dX5_isLastTracer_25
    · have hr := (if_pos c17_2).symm.trans hr
      refine lv_iconst (v := 1) hx hb dX5_isLastTracer_20 (by decide) ?_
      refine lv_goto (tgt := 25) hx hb dX5_isLastTracer_21 (by decide) ?_
      subst hr hQ
      exact fr_iret (W0 := []) C hret hlk w rfl rfl rfl dX5_isLastTracer_25
theorem b_X5_isLastTracer (xso : Int32) (xtr : Int32) (xwi : Int32) : (f_X5_isLastTracer xso xtr xwi) = 0 ∨ (f_X5_isLastTracer xso xtr xwi) = 1 := by
  unfold f_X5_isLastTracer
  try dsimp only
  repeat (first | exact Or.inl rfl | exact Or.inr rfl | split)
def f_X5_takesFigure (xnu : Int32) (q1 : Int32) : Int32 × Int32 := (if xnu = (-1) then (1, q1) else (if xnu = 0 then (0, xnu) else (if ((xnu * 10) + q1) ≤ 20 then (1, (xnu * 10) + q1) else (0, xnu))))
set_option maxRecDepth 100000 in
set_option maxHeartbeats 4000000 in
theorem c_X5_takesFigure (l : Launch) (D : va_G) (cI cJ : ClassId) (ar ard : Nat) (xso : Int32) (xtr : Int32) (xwi : Int32) (xnu : Int32) (xdr : Nat → Int32) (q1 : Int32) : CI l yX5_takesFigure cX5_takesFigure 3 .boolean 0 D cI cJ [.ref ar, .int q1] [(ar, .inr (5, [.ref ard, .int xso, .int xtr, .int xwi, .int xnu])), (ard, .inl (cI, 16, .inl xdr))] [(ar, .inr (5, [.ref ard, .int xso, .int xtr, .int xwi, .int ((f_X5_takesFigure xnu q1).2)])), (ard, .inl (cI, 16, .inl xdr))] ((f_X5_takesFigure xnu q1).1) := by
  generalize hr : f_X5_takesFigure xnu q1 = r
  refine fr_entryI (by decide) rfl ?_
  intro p e s m args below meth c A Q H locs hQ C hret hlk w ls hl
  have hx := C.1
  have hb := C.2.1
  have hl : lv_has ls 3 [(0, .ref ar), (1, .int q1)] := hl
  have hr : (if xnu = (-1) then (1, q1) else (if xnu = 0 then (0, xnu) else (if ((xnu * 10) + q1) ≤ 20 then (1, (xnu * 10) + q1) else (0, xnu)))) = r := hr
  refine lv_aload_n hx hb dX5_takesFigure_0 rfl (lv_at hl 0 rfl) ?_
  refine fr_get C w fg_X5_32 0 rfl rfl dX5_takesFigure_1 ?_
  refine lv_iconst (v := -1) hx hb dX5_takesFigure_4 (by decide) ?_
  refine lv_icmp_ne (tgt := 15) hx hb dX5_takesFigure_5 (by decide) (fun c5_1 => ?_) (fun c5_1 => ?_)
  · have hr := (if_neg c5_1).symm.trans hr
    refine lv_aload_n hx hb dX5_takesFigure_15 rfl (lv_at hl 0 rfl) ?_
    refine fr_get C w fg_X5_32 0 rfl rfl dX5_takesFigure_16 ?_
    refine lv_bipush (v := 10) hx hb dX5_takesFigure_19 (by decide) ?_
    refine lv_imul hx hb dX5_takesFigure_21 ?_
    refine lv_iload_n hx hb dX5_takesFigure_22 rfl (lv_at hl 1 rfl) ?_
    refine lv_iadd hx hb dX5_takesFigure_23 ?_
    refine lv_istore_n (lv' := [(2, .int ((xnu * 10) + q1)), (0, .ref ar), (1, .int q1)]) hx hb dX5_takesFigure_24 rfl hl (by decide) rfl (fun ls hl => ?_)
    refine lv_aload_n hx hb dX5_takesFigure_25 rfl (lv_at hl 1 rfl) ?_
    refine fr_get C w fg_X5_32 0 rfl rfl dX5_takesFigure_26 ?_
    refine lv_if_eq (tgt := 38) hx hb dX5_takesFigure_29 (by decide) (fun c29_2 => ?_) (fun c29_2 => ?_)
    · have hr := (if_pos c29_2).symm.trans hr
      refine lv_iconst (v := 0) hx hb dX5_takesFigure_38 (by decide) ?_
      subst hr hQ
      exact fr_iret (W0 := []) C hret hlk w rfl rfl rfl dX5_takesFigure_39
    · have hr := (if_neg c29_2).symm.trans hr
      refine lv_iload_n hx hb dX5_takesFigure_32 rfl (lv_at hl 0 rfl) ?_
      refine lv_bipush (v := 20) hx hb dX5_takesFigure_33 (by decide) ?_
      refine lv_icmp_le (tgt := 40) hx hb dX5_takesFigure_35 (by decide) (fun c35_3 => ?_) (fun c35_3 => ?_)
      · have hr := (if_pos c35_3).symm.trans hr
        refine lv_aload_n hx hb dX5_takesFigure_40 rfl (lv_at hl 1 rfl) ?_
        refine lv_iload_n hx hb dX5_takesFigure_41 rfl (lv_at hl 0 rfl) ?_
        refine fr_put C w fp_X5_32 0 rfl rfl rfl rfl (ws' := [(ar, .inr (5, [.ref ard, .int xso, .int xtr, .int xwi, .int ((xnu * 10) + q1)])), (ard, .inl (cI, 16, .inl xdr))]) rfl dX5_takesFigure_42 (fun H locs w => ?_)
        refine lv_iconst (v := 1) hx hb dX5_takesFigure_45 (by decide) ?_
        subst hr hQ
        exact fr_iret (W0 := []) C hret hlk w rfl rfl rfl dX5_takesFigure_46
      · have hr := (if_neg c35_3).symm.trans hr
        refine lv_iconst (v := 0) hx hb dX5_takesFigure_38 (by decide) ?_
        subst hr hQ
        exact fr_iret (W0 := []) C hret hlk w rfl rfl rfl dX5_takesFigure_39
  · have hr := (if_pos c5_1).symm.trans hr
    refine lv_aload_n hx hb dX5_takesFigure_8 rfl (lv_at hl 0 rfl) ?_
    refine lv_iload_n hx hb dX5_takesFigure_9 rfl (lv_at hl 1 rfl) ?_
    refine fr_put C w fp_X5_32 0 rfl rfl rfl rfl (ws' := [(ar, .inr (5, [.ref ard, .int xso, .int xtr, .int xwi, .int q1])), (ard, .inl (cI, 16, .inl xdr))]) rfl dX5_takesFigure_10 (fun H locs w => ?_)
    refine lv_iconst (v := 1) hx hb dX5_takesFigure_13 (by decide) ?_
    subst hr hQ
    exact fr_iret (W0 := []) C hret hlk w rfl rfl rfl dX5_takesFigure_14
theorem b_X5_takesFigure (xnu : Int32) (q1 : Int32) : (f_X5_takesFigure xnu q1).1 = 0 ∨ (f_X5_takesFigure xnu q1).1 = 1 := by
  unfold f_X5_takesFigure
  try dsimp only
  repeat (first | exact Or.inl rfl | exact Or.inr rfl | split)
def f_X5_takesComma (xso : Int32) (xtr : Int32) (xwi : Int32) (xnu : Int32) (xdr : Nat → Int32) : Int32 × Int32 × Int32 × (Nat → Int32) := ((fun (v2 : Int32) => (if xnu = (-1) then (0, xtr, xnu, xdr) else (if (xtr + 1) < v2 then ((fun (z37_5 : Int32 × (Nat → Int32)) => (1, xtr + 1, z37_5.1, z37_5.2)) (f_X5_keepNumber xso xtr xnu xdr)) else (0, xtr, xnu, xdr)))) (if xso = 0 then 4 else xwi))
set_option maxRecDepth 100000 in
set_option maxHeartbeats 4000000 in
theorem c_X5_takesComma (l : Launch) (D : va_G) (cI cJ : ClassId) (ar ard : Nat) (xso : Int32) (xtr : Int32) (xwi : Int32) (xnu : Int32) (xdr : Nat → Int32)  : CI l yX5_takesComma cX5_takesComma 2 .boolean 1 D cI cJ [.ref ar] [(ar, .inr (5, [.ref ard, .int xso, .int xtr, .int xwi, .int xnu])), (ard, .inl (cI, 16, .inl xdr))] [(ar, .inr (5, [.ref ard, .int xso, .int ((f_X5_takesComma xso xtr xwi xnu xdr).2.1), .int xwi, .int ((f_X5_takesComma xso xtr xwi xnu xdr).2.2.1)])), (ard, .inl (cI, 16, .inl ((f_X5_takesComma xso xtr xwi xnu xdr).2.2.2)))] ((f_X5_takesComma xso xtr xwi xnu xdr).1) := by
  generalize hr : f_X5_takesComma xso xtr xwi xnu xdr = r
  refine fr_entryI (by decide) rfl ?_
  intro p e s m args below meth c A Q H locs hQ C hret hlk w ls hl
  have hx := C.1
  have hb := C.2.1
  have hl : lv_has ls 2 [(0, .ref ar)] := hl
  have hr : ((fun (v2 : Int32) => (if xnu = (-1) then (0, xtr, xnu, xdr) else (if (xtr + 1) < v2 then ((fun (z37_5 : Int32 × (Nat → Int32)) => (1, xtr + 1, z37_5.1, z37_5.2)) (f_X5_keepNumber xso xtr xnu xdr)) else (0, xtr, xnu, xdr)))) (if xso = 0 then 4 else xwi)) = r := hr
  refine lv_aload_n hx hb dX5_takesComma_0 rfl (lv_at hl 0 rfl) ?_
  refine fr_get C w fg_X5_42 0 rfl rfl dX5_takesComma_1 ?_
  have J15_6 : ∀ (v2 : Int32), v2 = (if xso = 0 then 4 else xwi) → W p l e (rl 1) s m args below meth c H locs 0 0 Q (F0 m 15 ls [.int v2]) := by
    intro v2 ev2
    have hr : (if xnu = (-1) then (0, xtr, xnu, xdr) else (if (xtr + 1) < v2 then ((fun (z37_5 : Int32 × (Nat → Int32)) => (1, xtr + 1, z37_5.1, z37_5.2)) (f_X5_keepNumber xso xtr xnu xdr)) else (0, xtr, xnu, xdr))) = r := by subst ev2; exact hr
    refine lv_istore_n (lv' := [(1, .int v2), (0, .ref ar)]) hx hb dX5_takesComma_15 rfl hl (by decide) rfl (fun ls hl => ?_)
    refine lv_aload_n hx hb dX5_takesComma_16 rfl (lv_at hl 1 rfl) ?_
    refine fr_get C w fg_X5_32 0 rfl rfl dX5_takesComma_17 ?_
    refine lv_iconst (v := -1) hx hb dX5_takesComma_20 (by decide) ?_
    refine lv_icmp_eq (tgt := 34) hx hb dX5_takesComma_21 (by decide) (fun c21_3 => ?_) (fun c21_3 => ?_)
    · have hr := (if_pos c21_3).symm.trans hr
      refine lv_iconst (v := 0) hx hb dX5_takesComma_34 (by decide) ?_
      subst hr hQ
      exact fr_iret (W0 := []) C hret hlk w rfl rfl rfl dX5_takesComma_35
    · have hr := (if_neg c21_3).symm.trans hr
      refine lv_aload_n hx hb dX5_takesComma_24 rfl (lv_at hl 1 rfl) ?_
      refine fr_get C w fg_X5_45 0 rfl rfl dX5_takesComma_25 ?_
      refine lv_iconst (v := 1) hx hb dX5_takesComma_28 (by decide) ?_
      refine lv_iadd hx hb dX5_takesComma_29 ?_
      refine lv_iload_n hx hb dX5_takesComma_30 rfl (lv_at hl 0 rfl) ?_
      refine lv_icmp_lt (tgt := 36) hx hb dX5_takesComma_31 (by decide) (fun c31_4 => ?_) (fun c31_4 => ?_)
      · have hr := (if_pos c31_4).symm.trans hr
        refine lv_aload_n hx hb dX5_takesComma_36 rfl (lv_at hl 1 rfl) ?_
        obtain ⟨z37_5, hz37_5⟩ : ∃ y, (f_X5_keepNumber xso xtr xnu xdr) = y := ⟨_, rfl⟩
        have hcz37_5 := c_X5_keepNumber l D cI cJ ar ard xso xtr xwi xnu xdr
        rw [hz37_5] at hcz37_5
        have hr : (1, xtr + 1, z37_5.1, z37_5.2) = r := by subst hz37_5; exact hr
        refine fr_callVV (As := []) (rest := []) C w kf_X5_keepNumber mw_7_16 (hcz37_5) ⟨Nat.le_of_ble_eq_true rfl, Nat.le_of_ble_eq_true rfl⟩ ⟨Nat.le_refl 0, Nat.le_refl 0⟩ [0, 1] rfl rfl rfl (ws' := [(ar, .inr (5, [.ref ard, .int xso, .int xtr, .int xwi, .int z37_5.1])), (ard, .inl (cI, 16, .inl z37_5.2))]) rfl rfl rfl rfl hl.1 rfl (Nat.le_of_ble_eq_true rfl) dX5_takesComma_37 (fun H locs w => ?_)
        refine lv_aload_n hx hb dX5_takesComma_40 rfl (lv_at hl 1 rfl) ?_
        refine lv_dup hx hb dX5_takesComma_41 rfl ?_
        refine fr_get C w fg_X5_45 0 rfl rfl dX5_takesComma_42 ?_
        refine lv_iconst (v := 1) hx hb dX5_takesComma_45 (by decide) ?_
        refine lv_iadd hx hb dX5_takesComma_46 ?_
        refine fr_put C w fp_X5_45 0 rfl rfl rfl rfl (ws' := [(ar, .inr (5, [.ref ard, .int xso, .int (xtr + 1), .int xwi, .int z37_5.1])), (ard, .inl (cI, 16, .inl z37_5.2))]) rfl dX5_takesComma_47 (fun H locs w => ?_)
        refine lv_iconst (v := 1) hx hb dX5_takesComma_50 (by decide) ?_
        subst hr hQ
        exact fr_iret (W0 := []) C hret hlk w rfl rfl rfl dX5_takesComma_51
      · have hr := (if_neg c31_4).symm.trans hr
        refine lv_iconst (v := 0) hx hb dX5_takesComma_34 (by decide) ?_
        subst hr hQ
        exact fr_iret (W0 := []) C hret hlk w rfl rfl rfl dX5_takesComma_35
  refine lv_if_ne (tgt := 11) hx hb dX5_takesComma_4 (by decide) (fun c4_1 => ?_) (fun c4_1 => ?_)
  · refine lv_aload_n hx hb dX5_takesComma_11 rfl (lv_at hl 0 rfl) ?_
    refine fr_get C w fg_X5_48 0 rfl rfl dX5_takesComma_12 ?_
    exact J15_6 xwi (by rw [if_neg c4_1])
  · refine lv_iconst (v := 4) hx hb dX5_takesComma_7 (by decide) ?_
    refine lv_goto (tgt := 15) hx hb dX5_takesComma_8 (by decide) ?_
    exact J15_6 4 (by rw [if_pos c4_1])
theorem b_X5_takesComma (xso : Int32) (xtr : Int32) (xwi : Int32) (xnu : Int32) (xdr : Nat → Int32) : (f_X5_takesComma xso xtr xwi xnu xdr).1 = 0 ∨ (f_X5_takesComma xso xtr xwi xnu xdr).1 = 1 := by
  unfold f_X5_takesComma
  try dsimp only
  repeat (first | exact Or.inl rfl | exact Or.inr rfl | split)
def f_X5_takesSemicolon (xso : Int32) (xtr : Int32) (xwi : Int32) (xnu : Int32) (xdr : Nat → Int32) : Int32 × Int32 × Int32 × Int32 × Int32 × (Nat → Int32) := (if xnu = (-1) then (0, xso, xtr, xwi, xnu, xdr) else (if (f_X5_isLastTracer xso xtr xwi) = 0 then (0, xso, xtr, xwi, xnu, xdr) else (if (xso + 1) < 4 then ((fun (z28_4 : Int32 × (Nat → Int32)) => (1, xso + 1, 0, xtr + 1, z28_4.1, z28_4.2)) (f_X5_keepNumber xso xtr xnu xdr)) else (0, xso, xtr, xwi, xnu, xdr))))
set_option maxRecDepth 100000 in
set_option maxHeartbeats 4000000 in
theorem c_X5_takesSemicolon (l : Launch) (D : va_G) (cI cJ : ClassId) (ar ard : Nat) (xso : Int32) (xtr : Int32) (xwi : Int32) (xnu : Int32) (xdr : Nat → Int32)  : CI l yX5_takesSemicolon cX5_takesSemicolon 1 .boolean 1 D cI cJ [.ref ar] [(ar, .inr (5, [.ref ard, .int xso, .int xtr, .int xwi, .int xnu])), (ard, .inl (cI, 16, .inl xdr))] [(ar, .inr (5, [.ref ard, .int ((f_X5_takesSemicolon xso xtr xwi xnu xdr).2.1), .int ((f_X5_takesSemicolon xso xtr xwi xnu xdr).2.2.1), .int ((f_X5_takesSemicolon xso xtr xwi xnu xdr).2.2.2.1), .int ((f_X5_takesSemicolon xso xtr xwi xnu xdr).2.2.2.2.1)])), (ard, .inl (cI, 16, .inl ((f_X5_takesSemicolon xso xtr xwi xnu xdr).2.2.2.2.2)))] ((f_X5_takesSemicolon xso xtr xwi xnu xdr).1) := by
  generalize hr : f_X5_takesSemicolon xso xtr xwi xnu xdr = r
  refine fr_entryI (by decide) rfl ?_
  intro p e s m args below meth c A Q H locs hQ C hret hlk w ls hl
  have hx := C.1
  have hb := C.2.1
  have hl : lv_has ls 1 [(0, .ref ar)] := hl
  have hr : (if xnu = (-1) then (0, xso, xtr, xwi, xnu, xdr) else (if (f_X5_isLastTracer xso xtr xwi) = 0 then (0, xso, xtr, xwi, xnu, xdr) else (if (xso + 1) < 4 then ((fun (z28_4 : Int32 × (Nat → Int32)) => (1, xso + 1, 0, xtr + 1, z28_4.1, z28_4.2)) (f_X5_keepNumber xso xtr xnu xdr)) else (0, xso, xtr, xwi, xnu, xdr)))) = r := hr
  refine lv_aload_n hx hb dX5_takesSemicolon_0 rfl (lv_at hl 0 rfl) ?_
  refine fr_get C w fg_X5_32 0 rfl rfl dX5_takesSemicolon_1 ?_
  refine lv_iconst (v := -1) hx hb dX5_takesSemicolon_4 (by decide) ?_
  refine lv_icmp_eq (tgt := 25) hx hb dX5_takesSemicolon_5 (by decide) (fun c5_1 => ?_) (fun c5_1 => ?_)
  · have hr := (if_pos c5_1).symm.trans hr
    refine lv_iconst (v := 0) hx hb dX5_takesSemicolon_25 (by decide) ?_
    subst hr hQ
    exact fr_iret (W0 := []) C hret hlk w rfl rfl rfl dX5_takesSemicolon_26
  · have hr := (if_neg c5_1).symm.trans hr
    refine lv_aload_n hx hb dX5_takesSemicolon_8 rfl (lv_at hl 0 rfl) ?_
    refine fr_callIV (As := []) (rest := []) C w kf_X5_isLastTracer mw_8_0 (c_X5_isLastTracer l D cI cJ ar ard xso xtr xwi xnu xdr) ⟨Nat.le_of_ble_eq_true rfl, Nat.le_of_ble_eq_true rfl⟩ ⟨Nat.le_refl 0, Nat.le_refl 0⟩ [0, 1] rfl rfl rfl (ws' := [(ar, .inr (5, [.ref ard, .int xso, .int xtr, .int xwi, .int xnu])), (ard, .inl (cI, 16, .inl xdr))]) rfl rfl rfl rfl hl.1 rfl (Nat.le_of_ble_eq_true rfl) dX5_takesSemicolon_9 (fun H locs w => ?_)
    refine lv_if_eq (tgt := 25) hx hb dX5_takesSemicolon_12 (by decide) (fun c12_2 => ?_) (fun c12_2 => ?_)
    · have hr := (if_pos c12_2).symm.trans hr
      refine lv_iconst (v := 0) hx hb dX5_takesSemicolon_25 (by decide) ?_
      subst hr hQ
      exact fr_iret (W0 := []) C hret hlk w rfl rfl rfl dX5_takesSemicolon_26
    · have hr := (if_neg c12_2).symm.trans hr
      refine lv_aload_n hx hb dX5_takesSemicolon_15 rfl (lv_at hl 0 rfl) ?_
      refine fr_get C w fg_X5_42 0 rfl rfl dX5_takesSemicolon_16 ?_
      refine lv_iconst (v := 1) hx hb dX5_takesSemicolon_19 (by decide) ?_
      refine lv_iadd hx hb dX5_takesSemicolon_20 ?_
      refine lv_iconst (v := 4) hx hb dX5_takesSemicolon_21 (by decide) ?_
      refine lv_icmp_lt (tgt := 27) hx hb dX5_takesSemicolon_22 (by decide) (fun c22_3 => ?_) (fun c22_3 => ?_)
      · have hr := (if_pos c22_3).symm.trans hr
        refine lv_aload_n hx hb dX5_takesSemicolon_27 rfl (lv_at hl 0 rfl) ?_
        obtain ⟨z28_4, hz28_4⟩ : ∃ y, (f_X5_keepNumber xso xtr xnu xdr) = y := ⟨_, rfl⟩
        have hcz28_4 := c_X5_keepNumber l D cI cJ ar ard xso xtr xwi xnu xdr
        rw [hz28_4] at hcz28_4
        have hr : (1, xso + 1, 0, xtr + 1, z28_4.1, z28_4.2) = r := by subst hz28_4; exact hr
        refine fr_callVV (As := []) (rest := []) C w kf_X5_keepNumber mw_7_16 (hcz28_4) ⟨Nat.le_of_ble_eq_true rfl, Nat.le_of_ble_eq_true rfl⟩ ⟨Nat.le_refl 0, Nat.le_refl 0⟩ [0, 1] rfl rfl rfl (ws' := [(ar, .inr (5, [.ref ard, .int xso, .int xtr, .int xwi, .int z28_4.1])), (ard, .inl (cI, 16, .inl z28_4.2))]) rfl rfl rfl rfl hl.1 rfl (Nat.le_of_ble_eq_true rfl) dX5_takesSemicolon_28 (fun H locs w => ?_)
        refine lv_aload_n hx hb dX5_takesSemicolon_31 rfl (lv_at hl 0 rfl) ?_
        refine lv_aload_n hx hb dX5_takesSemicolon_32 rfl (lv_at hl 0 rfl) ?_
        refine fr_get C w fg_X5_45 0 rfl rfl dX5_takesSemicolon_33 ?_
        refine lv_iconst (v := 1) hx hb dX5_takesSemicolon_36 (by decide) ?_
        refine lv_iadd hx hb dX5_takesSemicolon_37 ?_
        refine fr_put C w fp_X5_48 0 rfl rfl rfl rfl (ws' := [(ar, .inr (5, [.ref ard, .int xso, .int xtr, .int (xtr + 1), .int z28_4.1])), (ard, .inl (cI, 16, .inl z28_4.2))]) rfl dX5_takesSemicolon_38 (fun H locs w => ?_)
        refine lv_aload_n hx hb dX5_takesSemicolon_41 rfl (lv_at hl 0 rfl) ?_
        refine lv_dup hx hb dX5_takesSemicolon_42 rfl ?_
        refine fr_get C w fg_X5_42 0 rfl rfl dX5_takesSemicolon_43 ?_
        refine lv_iconst (v := 1) hx hb dX5_takesSemicolon_46 (by decide) ?_
        refine lv_iadd hx hb dX5_takesSemicolon_47 ?_
        refine fr_put C w fp_X5_42 0 rfl rfl rfl rfl (ws' := [(ar, .inr (5, [.ref ard, .int (xso + 1), .int xtr, .int (xtr + 1), .int z28_4.1])), (ard, .inl (cI, 16, .inl z28_4.2))]) rfl dX5_takesSemicolon_48 (fun H locs w => ?_)
        refine lv_aload_n hx hb dX5_takesSemicolon_51 rfl (lv_at hl 0 rfl) ?_
        refine lv_iconst (v := 0) hx hb dX5_takesSemicolon_52 (by decide) ?_
        refine fr_put C w fp_X5_45 0 rfl rfl rfl rfl (ws' := [(ar, .inr (5, [.ref ard, .int (xso + 1), .int 0, .int (xtr + 1), .int z28_4.1])), (ard, .inl (cI, 16, .inl z28_4.2))]) rfl dX5_takesSemicolon_53 (fun H locs w => ?_)
        refine lv_iconst (v := 1) hx hb dX5_takesSemicolon_56 (by decide) ?_
        subst hr hQ
        exact fr_iret (W0 := []) C hret hlk w rfl rfl rfl dX5_takesSemicolon_57
      · have hr := (if_neg c22_3).symm.trans hr
        refine lv_iconst (v := 0) hx hb dX5_takesSemicolon_25 (by decide) ?_
        subst hr hQ
        exact fr_iret (W0 := []) C hret hlk w rfl rfl rfl dX5_takesSemicolon_26
theorem b_X5_takesSemicolon (xso : Int32) (xtr : Int32) (xwi : Int32) (xnu : Int32) (xdr : Nat → Int32) : (f_X5_takesSemicolon xso xtr xwi xnu xdr).1 = 0 ∨ (f_X5_takesSemicolon xso xtr xwi xnu xdr).1 = 1 := by
  unfold f_X5_takesSemicolon
  try dsimp only
  repeat (first | exact Or.inl rfl | exact Or.inr rfl | exact b_X5_isLastTracer _ _ _ | split)
def f_X5_takes (xso : Int32) (xtr : Int32) (xwi : Int32) (xnu : Int32) (xdr : Nat → Int32) (q1 : Int32) : Int32 × Int32 × Int32 × Int32 × Int32 × (Nat → Int32) := (if q1 = 44 then ((fun (z29_1 : Int32 × Int32 × Int32 × (Nat → Int32)) => (z29_1.1, xso, z29_1.2.1, xwi, z29_1.2.2.1, z29_1.2.2.2)) (f_X5_takesComma xso xtr xwi xnu xdr)) else (if q1 = 59 then ((fun (z34_2 : Int32 × Int32 × Int32 × Int32 × Int32 × (Nat → Int32)) => (z34_2.1, z34_2.2.1, z34_2.2.2.1, z34_2.2.2.2.1, z34_2.2.2.2.2.1, z34_2.2.2.2.2.2)) (f_X5_takesSemicolon xso xtr xwi xnu xdr)) else (if q1 < 48 then (0, xso, xtr, xwi, xnu, xdr) else (if 57 < q1 then (0, xso, xtr, xwi, xnu, xdr) else ((fun (z55_5 : Int32 × Int32) => (if z55_5.1 = 0 then (0, xso, xtr, xwi, z55_5.2, xdr) else (1, xso, xtr, xwi, z55_5.2, xdr))) (f_X5_takesFigure xnu (q1 - 48)))))))
set_option maxRecDepth 100000 in
set_option maxHeartbeats 4000000 in
theorem c_X5_takes (l : Launch) (D : va_G) (cI cJ : ClassId) (ar ard : Nat) (xso : Int32) (xtr : Int32) (xwi : Int32) (xnu : Int32) (xdr : Nat → Int32) (q1 : Int32) : CI l yX5_takes cX5_takes 2 .boolean 2 D cI cJ [.ref ar, .int q1] [(ar, .inr (5, [.ref ard, .int xso, .int xtr, .int xwi, .int xnu])), (ard, .inl (cI, 16, .inl xdr))] [(ar, .inr (5, [.ref ard, .int ((f_X5_takes xso xtr xwi xnu xdr q1).2.1), .int ((f_X5_takes xso xtr xwi xnu xdr q1).2.2.1), .int ((f_X5_takes xso xtr xwi xnu xdr q1).2.2.2.1), .int ((f_X5_takes xso xtr xwi xnu xdr q1).2.2.2.2.1)])), (ard, .inl (cI, 16, .inl ((f_X5_takes xso xtr xwi xnu xdr q1).2.2.2.2.2)))] ((f_X5_takes xso xtr xwi xnu xdr q1).1) := by
  generalize hr : f_X5_takes xso xtr xwi xnu xdr q1 = r
  refine fr_entryI (by decide) rfl ?_
  intro p e s m args below meth c A Q H locs hQ C hret hlk w ls hl
  have hx := C.1
  have hb := C.2.1
  have hl : lv_has ls 2 [(0, .ref ar), (1, .int q1)] := hl
  have hr : (if q1 = 44 then ((fun (z29_1 : Int32 × Int32 × Int32 × (Nat → Int32)) => (z29_1.1, xso, z29_1.2.1, xwi, z29_1.2.2.1, z29_1.2.2.2)) (f_X5_takesComma xso xtr xwi xnu xdr)) else (if q1 = 59 then ((fun (z34_2 : Int32 × Int32 × Int32 × Int32 × Int32 × (Nat → Int32)) => (z34_2.1, z34_2.2.1, z34_2.2.2.1, z34_2.2.2.2.1, z34_2.2.2.2.2.1, z34_2.2.2.2.2.2)) (f_X5_takesSemicolon xso xtr xwi xnu xdr)) else (if q1 < 48 then (0, xso, xtr, xwi, xnu, xdr) else (if 57 < q1 then (0, xso, xtr, xwi, xnu, xdr) else ((fun (z55_5 : Int32 × Int32) => (if z55_5.1 = 0 then (0, xso, xtr, xwi, z55_5.2, xdr) else (1, xso, xtr, xwi, z55_5.2, xdr))) (f_X5_takesFigure xnu (q1 - 48))))))) = r := hr
  refine lv_iload_n hx hb dX5_takes_0 rfl (lv_at hl 1 rfl) ?_
  by_cases c1_s0 : q1 = 44
  · have hr := (if_pos c1_s0).symm.trans hr
    refine lv_lookup (tgt := 28) (off := 27) hx hb dX5_takes_1 (by decide) (by rw [c1_s0]; decide) (by decide) ?_
    refine lv_aload_n hx hb dX5_takes_28 rfl (lv_at hl 0 rfl) ?_
    obtain ⟨z29_1, hz29_1⟩ : ∃ y, (f_X5_takesComma xso xtr xwi xnu xdr) = y := ⟨_, rfl⟩
    have hcz29_1 := c_X5_takesComma l D cI cJ ar ard xso xtr xwi xnu xdr
    rw [hz29_1] at hcz29_1
    have hr : (z29_1.1, xso, z29_1.2.1, xwi, z29_1.2.2.1, z29_1.2.2.2) = r := by subst hz29_1; exact hr
    refine fr_callIV (As := []) (rest := []) C w kf_X5_takesComma mw_7_12 (hcz29_1) ⟨Nat.le_of_ble_eq_true rfl, Nat.le_of_ble_eq_true rfl⟩ ⟨Nat.le_refl 0, Nat.le_refl 0⟩ [0, 1] rfl rfl rfl (ws' := [(ar, .inr (5, [.ref ard, .int xso, .int z29_1.2.1, .int xwi, .int z29_1.2.2.1])), (ard, .inl (cI, 16, .inl z29_1.2.2.2))]) rfl rfl rfl rfl hl.1 rfl (Nat.le_of_ble_eq_true rfl) dX5_takes_29 (fun H locs w => ?_)
    subst hr hQ
    exact fr_iret (W0 := []) C hret hlk w (nb_of (by rw [← hz29_1]; exact b_X5_takesComma _ _ _ _ _)) rfl rfl dX5_takes_32
  · have hr := (if_neg c1_s0).symm.trans hr
    by_cases c1_s1 : q1 = 59
    · have hr := (if_pos c1_s1).symm.trans hr
      refine lv_lookup (tgt := 33) (off := 32) hx hb dX5_takes_1 (by decide) (by rw [c1_s1]; decide) (by decide) ?_
      refine lv_aload_n hx hb dX5_takes_33 rfl (lv_at hl 0 rfl) ?_
      obtain ⟨z34_2, hz34_2⟩ : ∃ y, (f_X5_takesSemicolon xso xtr xwi xnu xdr) = y := ⟨_, rfl⟩
      have hcz34_2 := c_X5_takesSemicolon l D cI cJ ar ard xso xtr xwi xnu xdr
      rw [hz34_2] at hcz34_2
      have hr : (z34_2.1, z34_2.2.1, z34_2.2.2.1, z34_2.2.2.2.1, z34_2.2.2.2.2.1, z34_2.2.2.2.2.2) = r := by subst hz34_2; exact hr
      refine fr_callIV (As := []) (rest := []) C w kf_X5_takesSemicolon mw_7_20 (hcz34_2) ⟨Nat.le_of_ble_eq_true rfl, Nat.le_of_ble_eq_true rfl⟩ ⟨Nat.le_refl 0, Nat.le_refl 0⟩ [0, 1] rfl rfl rfl (ws' := [(ar, .inr (5, [.ref ard, .int z34_2.2.1, .int z34_2.2.2.1, .int z34_2.2.2.2.1, .int z34_2.2.2.2.2.1])), (ard, .inl (cI, 16, .inl z34_2.2.2.2.2.2))]) rfl rfl rfl rfl hl.1 rfl (Nat.le_of_ble_eq_true rfl) dX5_takes_34 (fun H locs w => ?_)
      subst hr hQ
      exact fr_iret (W0 := []) C hret hlk w (nb_of (by rw [← hz34_2]; exact b_X5_takesSemicolon _ _ _ _ _)) rfl rfl dX5_takes_37
    · have hr := (if_neg c1_s1).symm.trans hr
      refine lv_lookup (tgt := 38) (off := 37) hx hb dX5_takes_1 (by decide) (sw_look_X5_takes c1_s0 c1_s1) (by decide) ?_
      refine lv_iload_n hx hb dX5_takes_38 rfl (lv_at hl 1 rfl) ?_
      refine lv_bipush (v := 48) hx hb dX5_takes_39 (by decide) ?_
      refine lv_icmp_lt (tgt := 65) hx hb dX5_takes_41 (by decide) (fun c41_3 => ?_) (fun c41_3 => ?_)
      · have hr := (if_pos c41_3).symm.trans hr
        refine lv_iconst (v := 0) hx hb dX5_takes_65 (by decide) ?_
        subst hr hQ
        exact fr_iret (W0 := []) C hret hlk w rfl rfl rfl dX5_takes_66
      · have hr := (if_neg c41_3).symm.trans hr
        refine lv_iload_n hx hb dX5_takes_44 rfl (lv_at hl 1 rfl) ?_
        refine lv_bipush (v := 57) hx hb dX5_takes_45 (by decide) ?_
        refine lv_icmp_gt (tgt := 65) hx hb dX5_takes_47 (by decide) (fun c47_4 => ?_) (fun c47_4 => ?_)
        · have hr := (if_pos c47_4).symm.trans hr
          refine lv_iconst (v := 0) hx hb dX5_takes_65 (by decide) ?_
          subst hr hQ
          exact fr_iret (W0 := []) C hret hlk w rfl rfl rfl dX5_takes_66
        · have hr := (if_neg c47_4).symm.trans hr
          refine lv_aload_n hx hb dX5_takes_50 rfl (lv_at hl 0 rfl) ?_
          refine lv_iload_n hx hb dX5_takes_51 rfl (lv_at hl 1 rfl) ?_
          refine lv_bipush (v := 48) hx hb dX5_takes_52 (by decide) ?_
          refine lv_isub hx hb dX5_takes_54 ?_
          obtain ⟨z55_5, hz55_5⟩ : ∃ y, (f_X5_takesFigure xnu (q1 - 48)) = y := ⟨_, rfl⟩
          have hcz55_5 := c_X5_takesFigure l D cI cJ ar ard xso xtr xwi xnu xdr (q1 - 48)
          rw [hz55_5] at hcz55_5
          have hr : (if z55_5.1 = 0 then (0, xso, xtr, xwi, z55_5.2, xdr) else (1, xso, xtr, xwi, z55_5.2, xdr)) = r := by subst hz55_5; exact hr
          refine fr_callIV (As := [.int (q1 - 48)]) (rest := []) C w kf_X5_takesFigure mw_8_4 (hcz55_5) ⟨Nat.le_of_ble_eq_true rfl, Nat.le_of_ble_eq_true rfl⟩ ⟨Nat.le_refl 0, Nat.le_refl 0⟩ [0, 1] rfl rfl rfl (ws' := [(ar, .inr (5, [.ref ard, .int xso, .int xtr, .int xwi, .int z55_5.2])), (ard, .inl (cI, 16, .inl xdr))]) rfl rfl rfl rfl hl.1 rfl (Nat.le_of_ble_eq_true rfl) dX5_takes_55 (fun H locs w => ?_)
          refine lv_if_eq (tgt := 65) hx hb dX5_takes_58 (by decide) (fun c58_6 => ?_) (fun c58_6 => ?_)
          · have hr := (if_pos c58_6).symm.trans hr
            refine lv_iconst (v := 0) hx hb dX5_takes_65 (by decide) ?_
            subst hr hQ
            exact fr_iret (W0 := []) C hret hlk w rfl rfl rfl dX5_takes_66
          · have hr := (if_neg c58_6).symm.trans hr
            refine lv_iconst (v := 1) hx hb dX5_takes_61 (by decide) ?_
            refine lv_goto (tgt := 66) hx hb dX5_takes_62 (by decide) ?_
            subst hr hQ
            exact fr_iret (W0 := []) C hret hlk w rfl rfl rfl dX5_takes_66
theorem b_X5_takes (xso : Int32) (xtr : Int32) (xwi : Int32) (xnu : Int32) (xdr : Nat → Int32) (q1 : Int32) : (f_X5_takes xso xtr xwi xnu xdr q1).1 = 0 ∨ (f_X5_takes xso xtr xwi xnu xdr q1).1 = 1 := by
  unfold f_X5_takes
  try dsimp only
  repeat (first | exact Or.inl rfl | exact Or.inr rfl | exact b_X5_takesComma _ _ _ _ _ | exact b_X5_takesSemicolon _ _ _ _ _ | exact b_X5_takesFigure _ _ | split)
def f_X5_finish (xso : Int32) (xtr : Int32) (xwi : Int32) (xnu : Int32) (xdr : Nat → Int32) : Int32 × Int32 × (Nat → Int32) := (if xnu = (-1) then (0, xnu, xdr) else (if (f_X5_isLastTracer xso xtr xwi) = 0 then (0, xnu, xdr) else ((fun (z18_3 : Int32 × (Nat → Int32)) => (1, z18_3.1, z18_3.2)) (f_X5_keepNumber xso xtr xnu xdr))))
set_option maxRecDepth 100000 in
set_option maxHeartbeats 4000000 in
theorem c_X5_finish (l : Launch) (D : va_G) (cI cJ : ClassId) (ar ard : Nat) (xso : Int32) (xtr : Int32) (xwi : Int32) (xnu : Int32) (xdr : Nat → Int32)  : CI l yX5_finish cX5_finish 1 .boolean 1 D cI cJ [.ref ar] [(ar, .inr (5, [.ref ard, .int xso, .int xtr, .int xwi, .int xnu])), (ard, .inl (cI, 16, .inl xdr))] [(ar, .inr (5, [.ref ard, .int xso, .int xtr, .int xwi, .int ((f_X5_finish xso xtr xwi xnu xdr).2.1)])), (ard, .inl (cI, 16, .inl ((f_X5_finish xso xtr xwi xnu xdr).2.2)))] ((f_X5_finish xso xtr xwi xnu xdr).1) := by
  generalize hr : f_X5_finish xso xtr xwi xnu xdr = r
  refine fr_entryI (by decide) rfl ?_
  intro p e s m args below meth c A Q H locs hQ C hret hlk w ls hl
  have hx := C.1
  have hb := C.2.1
  have hl : lv_has ls 1 [(0, .ref ar)] := hl
  have hr : (if xnu = (-1) then (0, xnu, xdr) else (if (f_X5_isLastTracer xso xtr xwi) = 0 then (0, xnu, xdr) else ((fun (z18_3 : Int32 × (Nat → Int32)) => (1, z18_3.1, z18_3.2)) (f_X5_keepNumber xso xtr xnu xdr)))) = r := hr
  refine lv_aload_n hx hb dX5_finish_0 rfl (lv_at hl 0 rfl) ?_
  refine fr_get C w fg_X5_32 0 rfl rfl dX5_finish_1 ?_
  refine lv_iconst (v := -1) hx hb dX5_finish_4 (by decide) ?_
  refine lv_icmp_eq (tgt := 15) hx hb dX5_finish_5 (by decide) (fun c5_1 => ?_) (fun c5_1 => ?_)
  · have hr := (if_pos c5_1).symm.trans hr
    refine lv_iconst (v := 0) hx hb dX5_finish_15 (by decide) ?_
    subst hr hQ
    exact fr_iret (W0 := []) C hret hlk w rfl rfl rfl dX5_finish_16
  · have hr := (if_neg c5_1).symm.trans hr
    refine lv_aload_n hx hb dX5_finish_8 rfl (lv_at hl 0 rfl) ?_
    refine fr_callIV (As := []) (rest := []) C w kf_X5_isLastTracer mw_8_0 (c_X5_isLastTracer l D cI cJ ar ard xso xtr xwi xnu xdr) ⟨Nat.le_of_ble_eq_true rfl, Nat.le_of_ble_eq_true rfl⟩ ⟨Nat.le_refl 0, Nat.le_refl 0⟩ [0, 1] rfl rfl rfl (ws' := [(ar, .inr (5, [.ref ard, .int xso, .int xtr, .int xwi, .int xnu])), (ard, .inl (cI, 16, .inl xdr))]) rfl rfl rfl rfl hl.1 rfl (Nat.le_of_ble_eq_true rfl) dX5_finish_9 (fun H locs w => ?_)
    refine lv_if_ne (tgt := 17) hx hb dX5_finish_12 (by decide) (fun c12_2 => ?_) (fun c12_2 => ?_)
    · have hr := (if_neg c12_2).symm.trans hr
      refine lv_aload_n hx hb dX5_finish_17 rfl (lv_at hl 0 rfl) ?_
      obtain ⟨z18_3, hz18_3⟩ : ∃ y, (f_X5_keepNumber xso xtr xnu xdr) = y := ⟨_, rfl⟩
      have hcz18_3 := c_X5_keepNumber l D cI cJ ar ard xso xtr xwi xnu xdr
      rw [hz18_3] at hcz18_3
      have hr : (1, z18_3.1, z18_3.2) = r := by subst hz18_3; exact hr
      refine fr_callVV (As := []) (rest := []) C w kf_X5_keepNumber mw_7_16 (hcz18_3) ⟨Nat.le_of_ble_eq_true rfl, Nat.le_of_ble_eq_true rfl⟩ ⟨Nat.le_refl 0, Nat.le_refl 0⟩ [0, 1] rfl rfl rfl (ws' := [(ar, .inr (5, [.ref ard, .int xso, .int xtr, .int xwi, .int z18_3.1])), (ard, .inl (cI, 16, .inl z18_3.2))]) rfl rfl rfl rfl hl.1 rfl (Nat.le_of_ble_eq_true rfl) dX5_finish_18 (fun H locs w => ?_)
      refine lv_iconst (v := 1) hx hb dX5_finish_21 (by decide) ?_
      subst hr hQ
      exact fr_iret (W0 := []) C hret hlk w rfl rfl rfl dX5_finish_22
    · have hr := (if_pos c12_2).symm.trans hr
      refine lv_iconst (v := 0) hx hb dX5_finish_15 (by decide) ?_
      subst hr hQ
      exact fr_iret (W0 := []) C hret hlk w rfl rfl rfl dX5_finish_16
theorem b_X5_finish (xso : Int32) (xtr : Int32) (xwi : Int32) (xnu : Int32) (xdr : Nat → Int32) : (f_X5_finish xso xtr xwi xnu xdr).1 = 0 ∨ (f_X5_finish xso xtr xwi xnu xdr).1 = 1 := by
  unfold f_X5_finish
  try dsimp only
  repeat (first | exact Or.inl rfl | exact Or.inr rfl | exact b_X5_isLastTracer _ _ _ | split)
def L_X5_read_6 (xpl : Int32) (xpc : Nat → Int32) : Nat → Int32 → Int32 → Int32 → Int32 → Int32 → (Nat → Int32) → Int32 × Int32 × Int32 × Int32 × Int32 × (Nat → Int32)
  | 0, _, _, _, _, _, _ => (0, 0, 0, 0, 0, fun _ => 0)
  | n6 + 1, i2, w3, w4, w5, w6, w7 => (if xpl ≤ i2 then (xpl, w3, w4, w5, w6, w7) else ((fun (z20_9 : Int32 × Int32 × Int32 × Int32 × Int32 × (Nat → Int32)) => (if z20_9.1 = 0 then (i2, z20_9.2.1, z20_9.2.2.1, z20_9.2.2.2.1, z20_9.2.2.2.2.1, z20_9.2.2.2.2.2) else L_X5_read_6 xpl xpc n6 (i2 + 1) z20_9.2.1 z20_9.2.2.1 z20_9.2.2.2.1 z20_9.2.2.2.2.1 z20_9.2.2.2.2.2)) (f_X5_takes w3 w4 w5 w6 w7 (f_X4_codeAt xpl xpc i2))))
def f_X5_read (xdr : Nat → Int32) (xpl : Int32) (xpc : Nat → Int32) : Int32 × Int32 × Int32 × Int32 × Int32 × (Nat → Int32) := ((fun (z1_1 : Int32 × Int32 × Int32 × Int32 × (Nat → Int32)) => L_X5_read_6 xpl xpc 48 0 z1_1.1 z1_1.2.1 z1_1.2.2.1 z1_1.2.2.2.1 z1_1.2.2.2.2) (f_X5_start xdr))
set_option maxRecDepth 100000 in
set_option maxHeartbeats 4000000 in
theorem c_X5_read (l : Launch) (D : va_G) (cI cJ : ClassId) (ar ard ap apc : Nat) (xso : Int32) (xtr : Int32) (xwi : Int32) (xnu : Int32) (xdr : Nat → Int32) (xpl : Int32) (xpc : Nat → Int32)  (hpl : ∃ n : Nat, n ≤ 47 ∧ xpl = nI n) : CI l yX5_read cX5_read 3 .int 3 D cI cJ [.ref ar, .ref ap] [(ar, .inr (5, [.ref ard, .int xso, .int xtr, .int xwi, .int xnu])), (ard, .inl (cI, 16, .inl xdr)), (ap, .inr (4, [.ref apc, .int xpl])), (apc, .inl (cI, 47, .inl xpc))] [(ar, .inr (5, [.ref ard, .int ((f_X5_read xdr xpl xpc).2.1), .int ((f_X5_read xdr xpl xpc).2.2.1), .int ((f_X5_read xdr xpl xpc).2.2.2.1), .int ((f_X5_read xdr xpl xpc).2.2.2.2.1)])), (ard, .inl (cI, 16, .inl ((f_X5_read xdr xpl xpc).2.2.2.2.2))), (ap, .inr (4, [.ref apc, .int xpl])), (apc, .inl (cI, 47, .inl xpc))] ((f_X5_read xdr xpl xpc).1) := by
  generalize hr : f_X5_read xdr xpl xpc = r
  obtain ⟨npl, hpl1, hpl2⟩ := hpl
  refine fr_entryI (by decide) rfl ?_
  intro p e s m args below meth c A Q H locs hQ C hret hlk w ls hl
  have hx := C.1
  have hb := C.2.1
  have hl : lv_has ls 3 [(0, .ref ar), (1, .ref ap)] := hl
  have hr : ((fun (z1_1 : Int32 × Int32 × Int32 × Int32 × (Nat → Int32)) => L_X5_read_6 xpl xpc 48 0 z1_1.1 z1_1.2.1 z1_1.2.2.1 z1_1.2.2.2.1 z1_1.2.2.2.2) (f_X5_start xdr)) = r := hr
  refine lv_aload_n hx hb dX5_read_0 rfl (lv_at hl 0 rfl) ?_
  obtain ⟨z1_1, hz1_1⟩ : ∃ y, (f_X5_start xdr) = y := ⟨_, rfl⟩
  have hcz1_1 := c_X5_start l D cI cJ ar ard xso xtr xwi xnu xdr
  rw [hz1_1] at hcz1_1
  have hr : L_X5_read_6 xpl xpc 48 0 z1_1.1 z1_1.2.1 z1_1.2.2.1 z1_1.2.2.2.1 z1_1.2.2.2.2 = r := by subst hz1_1; exact hr
  refine fr_callVV (As := []) (rest := []) C w kf_X5_start mw_6_20 (hcz1_1) ⟨Nat.le_of_ble_eq_true rfl, Nat.le_of_ble_eq_true rfl⟩ ⟨Nat.le_refl 0, Nat.le_refl 0⟩ [0, 1] rfl rfl rfl (ws' := [(ar, .inr (5, [.ref ard, .int z1_1.1, .int z1_1.2.1, .int z1_1.2.2.1, .int z1_1.2.2.2.1])), (ard, .inl (cI, 16, .inl z1_1.2.2.2.2)), (ap, .inr (4, [.ref apc, .int xpl])), (apc, .inl (cI, 47, .inl xpc))]) rfl rfl rfl rfl hl.1 rfl (Nat.le_of_ble_eq_true rfl) dX5_read_1 (fun H locs w => ?_)
  refine lv_iconst (v := 0) hx hb dX5_read_4 (by decide) ?_
  refine lv_istore_n (lv' := [(2, .int 0), (0, .ref ar), (1, .ref ap)]) hx hb dX5_read_5 rfl hl (by decide) rfl (fun ls hl => ?_)
  have LP6 : ∀ (n6 : Nat) (k6 : Nat) (i2 : Int32) (w3 : Int32) (w4 : Int32) (w5 : Int32) (w6 : Int32) (w7 : Nat → Int32), i2 = nI k6 → k6 ≤ npl → npl < k6 + n6 → L_X5_read_6 xpl xpc n6 i2 w3 w4 w5 w6 w7 = r → ∀ (H : Heap) (locs : List Loc), Wd D A s.heap H locs [(ar, .inr (5, [.ref ard, .int w3, .int w4, .int w5, .int w6])), (ard, .inl (cI, 16, .inl w7)), (ap, .inr (4, [.ref apc, .int xpl])), (apc, .inl (cI, 47, .inl xpc))] → ∀ (ls : Array Slot), lv_has ls 3 [(0, .ref ar), (1, .ref ap), (2, .int i2)] → W p l e (rl 3) s m args below meth c H locs 0 0 Q (F0 m 6 ls []) := by
    skip
    intro n6
    induction n6 with
    | zero => intro k6 i2 w3 w4 w5 w6 w7 hk6 hkN6 hn6; exact absurd hn6 (by omega)
    | succ n6 ih6 =>
      intro k6 i2 w3 w4 w5 w6 w7 hk6 hkN6 hn6 hr H locs w ls hl
      have hr : (if xpl ≤ i2 then (xpl, w3, w4, w5, w6, w7) else ((fun (z20_9 : Int32 × Int32 × Int32 × Int32 × Int32 × (Nat → Int32)) => (if z20_9.1 = 0 then (i2, z20_9.2.1, z20_9.2.2.1, z20_9.2.2.2.1, z20_9.2.2.2.2.1, z20_9.2.2.2.2.2) else L_X5_read_6 xpl xpc n6 (i2 + 1) z20_9.2.1 z20_9.2.2.1 z20_9.2.2.2.1 z20_9.2.2.2.2.1 z20_9.2.2.2.2.2)) (f_X5_takes w3 w4 w5 w6 w7 (f_X4_codeAt xpl xpc i2)))) = r := hr
      refine lv_iload_n hx hb dX5_read_6 rfl (lv_at hl 2 rfl) ?_
      refine lv_aload_n hx hb dX5_read_7 rfl (lv_at hl 1 rfl) ?_
      refine fr_get C w fg_X5_18 2 rfl rfl dX5_read_8 ?_
      refine lv_icmp_ge (tgt := 34) hx hb dX5_read_11 (by decide) (fun c11_8 => ?_) (fun c11_8 => ?_)
      · have hr := (if_pos c11_8).symm.trans hr
        refine lv_aload_n hx hb dX5_read_34 rfl (lv_at hl 1 rfl) ?_
        refine fr_get C w fg_X5_18 2 rfl rfl dX5_read_35 ?_
        subst hr hQ
        exact fr_iret (W0 := []) C hret hlk w rfl rfl rfl dX5_read_38
      · have hr := (if_neg c11_8).symm.trans hr
        have hkl6 := kl_of hk6 hkN6 (N := npl) hpl2 (by omega) c11_8
        refine lv_aload_n hx hb dX5_read_14 rfl (lv_at hl 0 rfl) ?_
        refine lv_aload_n hx hb dX5_read_15 rfl (lv_at hl 1 rfl) ?_
        refine lv_iload_n hx hb dX5_read_16 rfl (lv_at hl 2 rfl) ?_
        refine fr_callIV (As := [.int i2]) (rest := [.ref ar]) C w kf_X4_codeAt mw_7_4 (c_X4_codeAt l D cI cJ ap apc xpl xpc i2) ⟨Nat.le_of_ble_eq_true rfl, Nat.le_of_ble_eq_true rfl⟩ ⟨Nat.le_refl 0, Nat.le_refl 0⟩ [2, 3] rfl rfl rfl (ws' := [(ar, .inr (5, [.ref ard, .int w3, .int w4, .int w5, .int w6])), (ard, .inl (cI, 16, .inl w7)), (ap, .inr (4, [.ref apc, .int xpl])), (apc, .inl (cI, 47, .inl xpc))]) rfl rfl rfl rfl hl.1 rfl (Nat.le_of_ble_eq_true rfl) dX5_read_17 (fun H locs w => ?_)
        obtain ⟨z20_9, hz20_9⟩ : ∃ y, (f_X5_takes w3 w4 w5 w6 w7 (f_X4_codeAt xpl xpc i2)) = y := ⟨_, rfl⟩
        have hcz20_9 := c_X5_takes l D cI cJ ar ard w3 w4 w5 w6 w7 (f_X4_codeAt xpl xpc i2)
        rw [hz20_9] at hcz20_9
        have hr : (if z20_9.1 = 0 then (i2, z20_9.2.1, z20_9.2.2.1, z20_9.2.2.2.1, z20_9.2.2.2.2.1, z20_9.2.2.2.2.2) else L_X5_read_6 xpl xpc n6 (i2 + 1) z20_9.2.1 z20_9.2.2.1 z20_9.2.2.2.1 z20_9.2.2.2.2.1 z20_9.2.2.2.2.2) = r := by subst hz20_9; exact hr
        refine fr_callIV (As := [.int (f_X4_codeAt xpl xpc i2)]) (rest := []) C w kf_X5_takes mw_7_8 (hcz20_9) ⟨Nat.le_of_ble_eq_true rfl, Nat.le_of_ble_eq_true rfl⟩ ⟨Nat.le_refl 0, Nat.le_refl 0⟩ [0, 1] rfl rfl rfl (ws' := [(ar, .inr (5, [.ref ard, .int z20_9.2.1, .int z20_9.2.2.1, .int z20_9.2.2.2.1, .int z20_9.2.2.2.2.1])), (ard, .inl (cI, 16, .inl z20_9.2.2.2.2.2)), (ap, .inr (4, [.ref apc, .int xpl])), (apc, .inl (cI, 47, .inl xpc))]) rfl rfl rfl rfl hl.1 rfl (Nat.le_of_ble_eq_true rfl) dX5_read_20 (fun H locs w => ?_)
        refine lv_if_ne (tgt := 28) hx hb dX5_read_23 (by decide) (fun c23_10 => ?_) (fun c23_10 => ?_)
        · have hr := (if_neg c23_10).symm.trans hr
          refine lv_iinc (v := i2 + 1) (lv' := [(2, .int (i2 + 1)), (0, .ref ar), (1, .ref ap)]) hx hb dX5_read_28 hl (k := 2) rfl rfl (by decide) rfl (fun ls hl => ?_)
          refine lv_goto (tgt := 6) hx hb dX5_read_31 (by decide) ?_
          exact ih6 (k6 + 1) (i2 + 1) z20_9.2.1 z20_9.2.2.1 z20_9.2.2.2.1 z20_9.2.2.2.2.1 z20_9.2.2.2.2.2 (by rw [hk6]; exact nI_1 k6) (by omega) (by omega) hr H locs w ls (lv_sub hl [1, 2, 0] rfl)
        · have hr := (if_pos c23_10).symm.trans hr
          refine lv_iload_n hx hb dX5_read_26 rfl (lv_at hl 2 rfl) ?_
          subst hr hQ
          exact fr_iret (W0 := []) C hret hlk w rfl rfl rfl dX5_read_27
  exact LP6 48 0 0 z1_1.1 z1_1.2.1 z1_1.2.2.1 z1_1.2.2.2.1 z1_1.2.2.2.2 (by decide) (by omega) (by omega) hr H locs w ls (lv_sub hl [1, 2, 0] rfl)
end
section
theorem mw_9_20 : Cond.fieldLink RX2 24 "MudShares$Mud" "sourceCount" "I" ∈ wsL_law := ck_9 _ (List.mem_of_getElem? (i := 20) rfl)
theorem mw_9_21 : Cond.fieldLink RX2 31 "MudShares$Mud" "tracerCount" "I" ∈ wsL_law := ck_9 _ (List.mem_of_getElem? (i := 21) rfl)
theorem mw_28_3 : Cond.methodLink RX2 38 yX2_allSources ∈ wsL_law := ck_28 _ (List.mem_of_getElem? (i := 3) rfl)
theorem mw_18_2 : Cond.code yX2_allSources cX2_allSources 1 (some .int) ∈ wsL_law := ck_18 _ (List.mem_of_getElem? (i := 2) rfl)
theorem mw_1_22 : Cond.initialized RX2 ∈ wsL_law := ck_1 _ (List.mem_of_getElem? (i := 22) rfl)
theorem mw_18_0 : Cond.instanceMethod yX2_allSources ∈ wsL_law := ck_18 _ (List.mem_of_getElem? (i := 0) rfl)
theorem mw_18_1 : Cond.selects RX2 yX2_allSources yX2_allSources ∈ wsL_law := ck_18 _ (List.mem_of_getElem? (i := 1) rfl)
theorem mw_15_19 : Cond.methodLink RX2 41 yX2_allTracers ∈ wsL_law := ck_15 _ (List.mem_of_getElem? (i := 19) rfl)
theorem mw_15_22 : Cond.code yX2_allTracers cX2_allTracers 1 (some .int) ∈ wsL_law := ck_15 _ (List.mem_of_getElem? (i := 22) rfl)
theorem mw_15_20 : Cond.instanceMethod yX2_allTracers ∈ wsL_law := ck_15 _ (List.mem_of_getElem? (i := 20) rfl)
theorem mw_15_21 : Cond.selects RX2 yX2_allTracers yX2_allTracers ∈ wsL_law := ck_15 _ (List.mem_of_getElem? (i := 21) rfl)
theorem mw_11_15 : Cond.methodLink RX2 44 yX2_isPlace ∈ wsL_law := ck_11 _ (List.mem_of_getElem? (i := 15) rfl)
theorem mw_11_17 : Cond.code yX2_isPlace cX2_isPlace 2 (some .boolean) ∈ wsL_law := ck_11 _ (List.mem_of_getElem? (i := 17) rfl)
theorem mw_11_16 : Cond.static yX2_isPlace ∈ wsL_law := ck_11 _ (List.mem_of_getElem? (i := 16) rfl)
theorem mw_2_23 : Cond.fieldLink RX2 9 "MudShares$Mud" "held" "[I" ∈ wsL_law := ck_2 _ (List.mem_of_getElem? (i := 23) rfl)
theorem mw_3_0 : Cond.fieldLink RX2 15 "MudShares$Mud" "weights" "[I" ∈ wsL_law := ck_3 _ (List.mem_of_getElem? (i := 0) rfl)
theorem mw_13_22 : Cond.methodLink RX2 48 yX2_heldOf ∈ wsL_law := ck_13 _ (List.mem_of_getElem? (i := 22) rfl)
theorem mw_11_14 : Cond.code yX2_heldOf cX2_heldOf 3 (some .int) ∈ wsL_law := ck_11 _ (List.mem_of_getElem? (i := 14) rfl)
theorem mw_11_12 : Cond.instanceMethod yX2_heldOf ∈ wsL_law := ck_11 _ (List.mem_of_getElem? (i := 12) rfl)
theorem mw_11_13 : Cond.selects RX2 yX2_heldOf yX2_heldOf ∈ wsL_law := ck_11 _ (List.mem_of_getElem? (i := 13) rfl)
theorem mw_16_8 : Cond.code yX6_isIn cX6_isIn 2 (some .boolean) ∈ wsL_law := ck_16 _ (List.mem_of_getElem? (i := 8) rfl)
theorem mw_1_2 : Cond.initialized RX6 ∈ wsL_law := ck_1 _ (List.mem_of_getElem? (i := 2) rfl)
theorem mw_16_7 : Cond.static yX6_isIn ∈ wsL_law := ck_16 _ (List.mem_of_getElem? (i := 7) rfl)
theorem mw_17_22 : Cond.methodLink RX2 58 yX2_weightOf ∈ wsL_law := ck_17 _ (List.mem_of_getElem? (i := 22) rfl)
theorem mw_12_1 : Cond.code yX2_weightOf cX2_weightOf 2 (some .int) ∈ wsL_law := ck_12 _ (List.mem_of_getElem? (i := 1) rfl)
theorem mw_11_23 : Cond.instanceMethod yX2_weightOf ∈ wsL_law := ck_11 _ (List.mem_of_getElem? (i := 23) rfl)
theorem mw_12_0 : Cond.selects RX2 yX2_weightOf yX2_weightOf ∈ wsL_law := ck_12 _ (List.mem_of_getElem? (i := 0) rfl)
theorem fg_X2_24 : FG RX2 24 2 2 := ⟨RX2, TX2, 4, rfl, by decide, inlX2, mw_9_20⟩
theorem fg_X2_31 : FG RX2 31 2 3 := ⟨RX2, TX2, 4, rfl, by decide, inlX2, mw_9_21⟩
theorem fg_X2_9 : FG RX2 9 2 0 := ⟨RX2, TX2, 4, rfl, by decide, inlX2, mw_2_23⟩
theorem fg_X2_15 : FG RX2 15 2 1 := ⟨RX2, TX2, 4, rfl, by decide, inlX2, mw_3_0⟩
theorem kf_X2_allSources : KV RX2 yX2_allSources cX2_allSources 1 (some .int) 0 := ⟨mw_18_2, mw_18_0, mw_18_1, mw_1_22, by decide, by decide, by decide +kernel⟩
theorem kf_X2_allTracers : KV RX2 yX2_allTracers cX2_allTracers 1 (some .int) 0 := ⟨mw_15_22, mw_15_20, mw_15_21, mw_1_22, by decide, by decide, by decide +kernel⟩
theorem kf_X2_isPlace : KS yX2_isPlace cX2_isPlace 2 (some .boolean) 2 := ⟨mw_11_17, mw_11_16, mw_1_22, by decide, by decide, by decide +kernel⟩
theorem kf_X2_heldOf : KV RX2 yX2_heldOf cX2_heldOf 3 (some .int) 2 := ⟨mw_11_14, mw_11_12, mw_11_13, mw_1_22, by decide, by decide, by decide +kernel⟩
theorem kf_X6_isIn : KS yX6_isIn cX6_isIn 2 (some .boolean) 2 := ⟨mw_16_8, mw_16_7, mw_1_2, by decide, by decide, by decide +kernel⟩
theorem kf_X2_weightOf : KV RX2 yX2_weightOf cX2_weightOf 2 (some .int) 1 := ⟨mw_12_1, mw_11_23, mw_12_0, mw_1_22, by decide, by decide, by decide +kernel⟩
def f_X2_isSource (xsc : Int32) (q1 : Int32) : Int32 := (if q1 < 0 then 0 else (if xsc ≤ q1 then 0 else 1))
set_option maxRecDepth 100000 in
set_option maxHeartbeats 4000000 in
theorem c_X2_isSource (l : Launch) (D : va_G) (cI cJ : ClassId) (au auh auw : Nat) (xsc : Int32) (xtc : Int32) (xhd : Nat → Int32) (xwt : Nat → Int32) (q1 : Int32) : CI l yX2_isSource cX2_isSource 2 .boolean 0 D cI cJ [.ref au, .int q1] [(au, .inr (2, [.ref auh, .ref auw, .int xsc, .int xtc])), (auh, .inl (cI, 20, .inl xhd)), (auw, .inl (cI, 4, .inl xwt))] [(au, .inr (2, [.ref auh, .ref auw, .int xsc, .int xtc])), (auh, .inl (cI, 20, .inl xhd)), (auw, .inl (cI, 4, .inl xwt))] (f_X2_isSource xsc q1) := by
  generalize hr : f_X2_isSource xsc q1 = r
  refine fr_entryI (by decide) rfl ?_
  intro p e s m args below meth c A Q H locs hQ C hret hlk w ls hl
  have hx := C.1
  have hb := C.2.1
  have hl : lv_has ls 2 [(0, .ref au), (1, .int q1)] := hl
  have hr : (if q1 < 0 then 0 else (if xsc ≤ q1 then 0 else 1)) = r := hr
  refine lv_iload_n hx hb dX2_isSource_0 rfl (lv_at hl 1 rfl) ?_
  refine lv_if_lt (tgt := 16) hx hb dX2_isSource_1 (by decide) (fun c1_1 => ?_) (fun c1_1 => ?_)
  · have hr := (if_pos c1_1).symm.trans hr
    refine lv_iconst (v := 0) hx hb dX2_isSource_16 (by decide) ?_
    subst hr hQ
    exact fr_iret (W0 := []) C hret hlk w rfl rfl rfl dX2_isSource_17
  · have hr := (if_neg c1_1).symm.trans hr
    refine lv_iload_n hx hb dX2_isSource_4 rfl (lv_at hl 1 rfl) ?_
    refine lv_aload_n hx hb dX2_isSource_5 rfl (lv_at hl 0 rfl) ?_
    refine fr_get C w fg_X2_24 0 rfl rfl dX2_isSource_6 ?_
    refine lv_icmp_ge (tgt := 16) hx hb dX2_isSource_9 (by decide) (fun c9_2 => ?_) (fun c9_2 => ?_)
    · have hr := (if_pos c9_2).symm.trans hr
      refine lv_iconst (v := 0) hx hb dX2_isSource_16 (by decide) ?_
      subst hr hQ
      exact fr_iret (W0 := []) C hret hlk w rfl rfl rfl dX2_isSource_17
    · have hr := (if_neg c9_2).symm.trans hr
      refine lv_iconst (v := 1) hx hb dX2_isSource_12 (by decide) ?_
      refine lv_goto (tgt := 17) hx hb dX2_isSource_13 (by decide) ?_
      subst hr hQ
      exact fr_iret (W0 := []) C hret hlk w rfl rfl rfl dX2_isSource_17
theorem b_X2_isSource (xsc : Int32) (q1 : Int32) : (f_X2_isSource xsc q1) = 0 ∨ (f_X2_isSource xsc q1) = 1 := by
  unfold f_X2_isSource
  try dsimp only
  repeat (first | exact Or.inl rfl | exact Or.inr rfl | split)
def f_X2_isTracer (xtc : Int32) (q1 : Int32) : Int32 := (if q1 < 0 then 0 else (if xtc ≤ q1 then 0 else 1))
set_option maxRecDepth 100000 in
set_option maxHeartbeats 4000000 in
theorem c_X2_isTracer (l : Launch) (D : va_G) (cI cJ : ClassId) (au auh auw : Nat) (xsc : Int32) (xtc : Int32) (xhd : Nat → Int32) (xwt : Nat → Int32) (q1 : Int32) : CI l yX2_isTracer cX2_isTracer 2 .boolean 0 D cI cJ [.ref au, .int q1] [(au, .inr (2, [.ref auh, .ref auw, .int xsc, .int xtc])), (auh, .inl (cI, 20, .inl xhd)), (auw, .inl (cI, 4, .inl xwt))] [(au, .inr (2, [.ref auh, .ref auw, .int xsc, .int xtc])), (auh, .inl (cI, 20, .inl xhd)), (auw, .inl (cI, 4, .inl xwt))] (f_X2_isTracer xtc q1) := by
  generalize hr : f_X2_isTracer xtc q1 = r
  refine fr_entryI (by decide) rfl ?_
  intro p e s m args below meth c A Q H locs hQ C hret hlk w ls hl
  have hx := C.1
  have hb := C.2.1
  have hl : lv_has ls 2 [(0, .ref au), (1, .int q1)] := hl
  have hr : (if q1 < 0 then 0 else (if xtc ≤ q1 then 0 else 1)) = r := hr
  refine lv_iload_n hx hb dX2_isTracer_0 rfl (lv_at hl 1 rfl) ?_
  refine lv_if_lt (tgt := 16) hx hb dX2_isTracer_1 (by decide) (fun c1_1 => ?_) (fun c1_1 => ?_)
  · have hr := (if_pos c1_1).symm.trans hr
    refine lv_iconst (v := 0) hx hb dX2_isTracer_16 (by decide) ?_
    subst hr hQ
    exact fr_iret (W0 := []) C hret hlk w rfl rfl rfl dX2_isTracer_17
  · have hr := (if_neg c1_1).symm.trans hr
    refine lv_iload_n hx hb dX2_isTracer_4 rfl (lv_at hl 1 rfl) ?_
    refine lv_aload_n hx hb dX2_isTracer_5 rfl (lv_at hl 0 rfl) ?_
    refine fr_get C w fg_X2_31 0 rfl rfl dX2_isTracer_6 ?_
    refine lv_icmp_ge (tgt := 16) hx hb dX2_isTracer_9 (by decide) (fun c9_2 => ?_) (fun c9_2 => ?_)
    · have hr := (if_pos c9_2).symm.trans hr
      refine lv_iconst (v := 0) hx hb dX2_isTracer_16 (by decide) ?_
      subst hr hQ
      exact fr_iret (W0 := []) C hret hlk w rfl rfl rfl dX2_isTracer_17
    · have hr := (if_neg c9_2).symm.trans hr
      refine lv_iconst (v := 1) hx hb dX2_isTracer_12 (by decide) ?_
      refine lv_goto (tgt := 17) hx hb dX2_isTracer_13 (by decide) ?_
      subst hr hQ
      exact fr_iret (W0 := []) C hret hlk w rfl rfl rfl dX2_isTracer_17
theorem b_X2_isTracer (xtc : Int32) (q1 : Int32) : (f_X2_isTracer xtc q1) = 0 ∨ (f_X2_isTracer xtc q1) = 1 := by
  unfold f_X2_isTracer
  try dsimp only
  repeat (first | exact Or.inl rfl | exact Or.inr rfl | split)
def f_X2_allSources (xsc : Int32) : Int32 := (1 <<< (xsc &&& 31)) - 1
set_option maxRecDepth 100000 in
set_option maxHeartbeats 4000000 in
theorem c_X2_allSources (l : Launch) (D : va_G) (cI cJ : ClassId) (au auh auw : Nat) (xsc : Int32) (xtc : Int32) (xhd : Nat → Int32) (xwt : Nat → Int32)  : CI l yX2_allSources cX2_allSources 1 .int 0 D cI cJ [.ref au] [(au, .inr (2, [.ref auh, .ref auw, .int xsc, .int xtc])), (auh, .inl (cI, 20, .inl xhd)), (auw, .inl (cI, 4, .inl xwt))] [(au, .inr (2, [.ref auh, .ref auw, .int xsc, .int xtc])), (auh, .inl (cI, 20, .inl xhd)), (auw, .inl (cI, 4, .inl xwt))] (f_X2_allSources xsc) := by
  generalize hr : f_X2_allSources xsc = r
  refine fr_entryI (by decide) rfl ?_
  intro p e s m args below meth c A Q H locs hQ C hret hlk w ls hl
  have hx := C.1
  have hb := C.2.1
  have hl : lv_has ls 1 [(0, .ref au)] := hl
  have hr : (1 <<< (xsc &&& 31)) - 1 = r := hr
  refine lv_iconst (v := 1) hx hb dX2_allSources_0 (by decide) ?_
  refine lv_aload_n hx hb dX2_allSources_1 rfl (lv_at hl 0 rfl) ?_
  refine fr_get C w fg_X2_24 0 rfl rfl dX2_allSources_2 ?_
  refine lv_ishl hx hb dX2_allSources_5 ?_
  refine lv_iconst (v := 1) hx hb dX2_allSources_6 (by decide) ?_
  refine lv_isub hx hb dX2_allSources_7 ?_
  subst hr hQ
  exact fr_iret (W0 := []) C hret hlk w rfl rfl rfl dX2_allSources_8
def f_X2_allTracers (xtc : Int32) : Int32 := (1 <<< (xtc &&& 31)) - 1
set_option maxRecDepth 100000 in
set_option maxHeartbeats 4000000 in
theorem c_X2_allTracers (l : Launch) (D : va_G) (cI cJ : ClassId) (au auh auw : Nat) (xsc : Int32) (xtc : Int32) (xhd : Nat → Int32) (xwt : Nat → Int32)  : CI l yX2_allTracers cX2_allTracers 1 .int 0 D cI cJ [.ref au] [(au, .inr (2, [.ref auh, .ref auw, .int xsc, .int xtc])), (auh, .inl (cI, 20, .inl xhd)), (auw, .inl (cI, 4, .inl xwt))] [(au, .inr (2, [.ref auh, .ref auw, .int xsc, .int xtc])), (auh, .inl (cI, 20, .inl xhd)), (auw, .inl (cI, 4, .inl xwt))] (f_X2_allTracers xtc) := by
  generalize hr : f_X2_allTracers xtc = r
  refine fr_entryI (by decide) rfl ?_
  intro p e s m args below meth c A Q H locs hQ C hret hlk w ls hl
  have hx := C.1
  have hb := C.2.1
  have hl : lv_has ls 1 [(0, .ref au)] := hl
  have hr : (1 <<< (xtc &&& 31)) - 1 = r := hr
  refine lv_iconst (v := 1) hx hb dX2_allTracers_0 (by decide) ?_
  refine lv_aload_n hx hb dX2_allTracers_1 rfl (lv_at hl 0 rfl) ?_
  refine fr_get C w fg_X2_31 0 rfl rfl dX2_allTracers_2 ?_
  refine lv_ishl hx hb dX2_allTracers_5 ?_
  refine lv_iconst (v := 1) hx hb dX2_allTracers_6 (by decide) ?_
  refine lv_isub hx hb dX2_allTracers_7 ?_
  subst hr hQ
  exact fr_iret (W0 := []) C hret hlk w rfl rfl rfl dX2_allTracers_8
def f_X2_isSet (xsc : Int32) (q1 : Int32) : Int32 := (if q1 < 1 then 0 else (if (f_X2_allSources xsc) < q1 then 0 else 1))
set_option maxRecDepth 100000 in
set_option maxHeartbeats 4000000 in
theorem c_X2_isSet (l : Launch) (D : va_G) (cI cJ : ClassId) (au auh auw : Nat) (xsc : Int32) (xtc : Int32) (xhd : Nat → Int32) (xwt : Nat → Int32) (q1 : Int32) : CI l yX2_isSet cX2_isSet 2 .boolean 1 D cI cJ [.ref au, .int q1] [(au, .inr (2, [.ref auh, .ref auw, .int xsc, .int xtc])), (auh, .inl (cI, 20, .inl xhd)), (auw, .inl (cI, 4, .inl xwt))] [(au, .inr (2, [.ref auh, .ref auw, .int xsc, .int xtc])), (auh, .inl (cI, 20, .inl xhd)), (auw, .inl (cI, 4, .inl xwt))] (f_X2_isSet xsc q1) := by
  generalize hr : f_X2_isSet xsc q1 = r
  refine fr_entryI (by decide) rfl ?_
  intro p e s m args below meth c A Q H locs hQ C hret hlk w ls hl
  have hx := C.1
  have hb := C.2.1
  have hl : lv_has ls 2 [(0, .ref au), (1, .int q1)] := hl
  have hr : (if q1 < 1 then 0 else (if (f_X2_allSources xsc) < q1 then 0 else 1)) = r := hr
  refine lv_iload_n hx hb dX2_isSet_0 rfl (lv_at hl 1 rfl) ?_
  refine lv_iconst (v := 1) hx hb dX2_isSet_1 (by decide) ?_
  refine lv_icmp_lt (tgt := 17) hx hb dX2_isSet_2 (by decide) (fun c2_1 => ?_) (fun c2_1 => ?_)
  · have hr := (if_pos c2_1).symm.trans hr
    refine lv_iconst (v := 0) hx hb dX2_isSet_17 (by decide) ?_
    subst hr hQ
    exact fr_iret (W0 := []) C hret hlk w rfl rfl rfl dX2_isSet_18
  · have hr := (if_neg c2_1).symm.trans hr
    refine lv_iload_n hx hb dX2_isSet_5 rfl (lv_at hl 1 rfl) ?_
    refine lv_aload_n hx hb dX2_isSet_6 rfl (lv_at hl 0 rfl) ?_
    refine fr_callIV (As := []) (rest := [.int q1]) C w kf_X2_allSources mw_28_3 (c_X2_allSources l D cI cJ au auh auw xsc xtc xhd xwt) ⟨Nat.le_of_ble_eq_true rfl, Nat.le_of_ble_eq_true rfl⟩ ⟨Nat.le_refl 0, Nat.le_refl 0⟩ [0, 1, 2] rfl rfl rfl (ws' := [(au, .inr (2, [.ref auh, .ref auw, .int xsc, .int xtc])), (auh, .inl (cI, 20, .inl xhd)), (auw, .inl (cI, 4, .inl xwt))]) rfl rfl rfl rfl hl.1 rfl (Nat.le_of_ble_eq_true rfl) dX2_isSet_7 (fun H locs w => ?_)
    refine lv_icmp_gt (tgt := 17) hx hb dX2_isSet_10 (by decide) (fun c10_2 => ?_) (fun c10_2 => ?_)
    · have hr := (if_pos c10_2).symm.trans hr
      refine lv_iconst (v := 0) hx hb dX2_isSet_17 (by decide) ?_
      subst hr hQ
      exact fr_iret (W0 := []) C hret hlk w rfl rfl rfl dX2_isSet_18
    · have hr := (if_neg c10_2).symm.trans hr
      refine lv_iconst (v := 1) hx hb dX2_isSet_13 (by decide) ?_
      refine lv_goto (tgt := 18) hx hb dX2_isSet_14 (by decide) ?_
      subst hr hQ
      exact fr_iret (W0 := []) C hret hlk w rfl rfl rfl dX2_isSet_18
theorem b_X2_isSet (xsc : Int32) (q1 : Int32) : (f_X2_isSet xsc q1) = 0 ∨ (f_X2_isSet xsc q1) = 1 := by
  unfold f_X2_isSet
  try dsimp only
  repeat (first | exact Or.inl rfl | exact Or.inr rfl | split)
def f_X2_isUsed (xtc : Int32) (q1 : Int32) : Int32 := (if q1 < 1 then 0 else (if (f_X2_allTracers xtc) < q1 then 0 else 1))
set_option maxRecDepth 100000 in
set_option maxHeartbeats 4000000 in
theorem c_X2_isUsed (l : Launch) (D : va_G) (cI cJ : ClassId) (au auh auw : Nat) (xsc : Int32) (xtc : Int32) (xhd : Nat → Int32) (xwt : Nat → Int32) (q1 : Int32) : CI l yX2_isUsed cX2_isUsed 2 .boolean 1 D cI cJ [.ref au, .int q1] [(au, .inr (2, [.ref auh, .ref auw, .int xsc, .int xtc])), (auh, .inl (cI, 20, .inl xhd)), (auw, .inl (cI, 4, .inl xwt))] [(au, .inr (2, [.ref auh, .ref auw, .int xsc, .int xtc])), (auh, .inl (cI, 20, .inl xhd)), (auw, .inl (cI, 4, .inl xwt))] (f_X2_isUsed xtc q1) := by
  generalize hr : f_X2_isUsed xtc q1 = r
  refine fr_entryI (by decide) rfl ?_
  intro p e s m args below meth c A Q H locs hQ C hret hlk w ls hl
  have hx := C.1
  have hb := C.2.1
  have hl : lv_has ls 2 [(0, .ref au), (1, .int q1)] := hl
  have hr : (if q1 < 1 then 0 else (if (f_X2_allTracers xtc) < q1 then 0 else 1)) = r := hr
  refine lv_iload_n hx hb dX2_isUsed_0 rfl (lv_at hl 1 rfl) ?_
  refine lv_iconst (v := 1) hx hb dX2_isUsed_1 (by decide) ?_
  refine lv_icmp_lt (tgt := 17) hx hb dX2_isUsed_2 (by decide) (fun c2_1 => ?_) (fun c2_1 => ?_)
  · have hr := (if_pos c2_1).symm.trans hr
    refine lv_iconst (v := 0) hx hb dX2_isUsed_17 (by decide) ?_
    subst hr hQ
    exact fr_iret (W0 := []) C hret hlk w rfl rfl rfl dX2_isUsed_18
  · have hr := (if_neg c2_1).symm.trans hr
    refine lv_iload_n hx hb dX2_isUsed_5 rfl (lv_at hl 1 rfl) ?_
    refine lv_aload_n hx hb dX2_isUsed_6 rfl (lv_at hl 0 rfl) ?_
    refine fr_callIV (As := []) (rest := [.int q1]) C w kf_X2_allTracers mw_15_19 (c_X2_allTracers l D cI cJ au auh auw xsc xtc xhd xwt) ⟨Nat.le_of_ble_eq_true rfl, Nat.le_of_ble_eq_true rfl⟩ ⟨Nat.le_refl 0, Nat.le_refl 0⟩ [0, 1, 2] rfl rfl rfl (ws' := [(au, .inr (2, [.ref auh, .ref auw, .int xsc, .int xtc])), (auh, .inl (cI, 20, .inl xhd)), (auw, .inl (cI, 4, .inl xwt))]) rfl rfl rfl rfl hl.1 rfl (Nat.le_of_ble_eq_true rfl) dX2_isUsed_7 (fun H locs w => ?_)
    refine lv_icmp_gt (tgt := 17) hx hb dX2_isUsed_10 (by decide) (fun c10_2 => ?_) (fun c10_2 => ?_)
    · have hr := (if_pos c10_2).symm.trans hr
      refine lv_iconst (v := 0) hx hb dX2_isUsed_17 (by decide) ?_
      subst hr hQ
      exact fr_iret (W0 := []) C hret hlk w rfl rfl rfl dX2_isUsed_18
    · have hr := (if_neg c10_2).symm.trans hr
      refine lv_iconst (v := 1) hx hb dX2_isUsed_13 (by decide) ?_
      refine lv_goto (tgt := 18) hx hb dX2_isUsed_14 (by decide) ?_
      subst hr hQ
      exact fr_iret (W0 := []) C hret hlk w rfl rfl rfl dX2_isUsed_18
theorem b_X2_isUsed (xtc : Int32) (q1 : Int32) : (f_X2_isUsed xtc q1) = 0 ∨ (f_X2_isUsed xtc q1) = 1 := by
  unfold f_X2_isUsed
  try dsimp only
  repeat (first | exact Or.inl rfl | exact Or.inr rfl | split)
def f_X2_heldOf (xhd : Nat → Int32) (ro : Int32) (tr : Int32) : Int32 := (if (f_X2_isPlace ro tr) = 0 then 0 else xhd (Int32.toNatClampNeg ((ro * 4) + tr)))
set_option maxRecDepth 100000 in
set_option maxHeartbeats 4000000 in
theorem c_X2_heldOf (l : Launch) (D : va_G) (cI cJ : ClassId) (au auh auw : Nat) (xsc : Int32) (xtc : Int32) (xhd : Nat → Int32) (xwt : Nat → Int32) (ro : Int32) (tr : Int32) : CI l yX2_heldOf cX2_heldOf 3 .int 1 D cI cJ [.ref au, .int ro, .int tr] [(au, .inr (2, [.ref auh, .ref auw, .int xsc, .int xtc])), (auh, .inl (cI, 20, .inl xhd)), (auw, .inl (cI, 4, .inl xwt))] [(au, .inr (2, [.ref auh, .ref auw, .int xsc, .int xtc])), (auh, .inl (cI, 20, .inl xhd)), (auw, .inl (cI, 4, .inl xwt))] (f_X2_heldOf xhd ro tr) := by
  generalize hr : f_X2_heldOf xhd ro tr = r
  refine fr_entryI (by decide) rfl ?_
  intro p e s m args below meth c A Q H locs hQ C hret hlk w ls hl
  have hx := C.1
  have hb := C.2.1
  have hl : lv_has ls 3 [(0, .ref au), (1, .int ro), (2, .int tr)] := hl
  have hr : (if (f_X2_isPlace ro tr) = 0 then 0 else xhd (Int32.toNatClampNeg ((ro * 4) + tr))) = r := hr
  refine lv_iload_n hx hb dX2_heldOf_0 rfl (lv_at hl 1 rfl) ?_
  refine lv_iload_n hx hb dX2_heldOf_1 rfl (lv_at hl 2 rfl) ?_
  refine fr_callIS (As := [.int ro, .int tr]) (rest := []) C w kf_X2_isPlace mw_11_15 (c_X2_isPlace l D cI cJ ro tr) ⟨Nat.le_of_ble_eq_true rfl, Nat.le_of_ble_eq_true rfl⟩ ⟨Nat.le_refl 0, Nat.le_refl 0⟩ [] rfl rfl rfl (ws' := [(au, .inr (2, [.ref auh, .ref auw, .int xsc, .int xtc])), (auh, .inl (cI, 20, .inl xhd)), (auw, .inl (cI, 4, .inl xwt))]) rfl rfl hl.1 rfl (Nat.le_of_ble_eq_true rfl) dX2_heldOf_2 (fun H locs w => ?_)
  refine lv_if_eq (tgt := 21) hx hb dX2_heldOf_5 (by decide) (fun c5_1 => ?_) (fun c5_1 => ?_)
  · have hr := (if_pos c5_1).symm.trans hr
    refine lv_iconst (v := 0) hx hb dX2_heldOf_21 (by decide) ?_
    subst hr hQ
    exact fr_iret (W0 := []) C hret hlk w rfl rfl rfl dX2_heldOf_22
  · have hr := (if_neg c5_1).symm.trans hr
    refine lv_aload_n hx hb dX2_heldOf_8 rfl (lv_at hl 0 rfl) ?_
    refine fr_get C w fg_X2_9 0 rfl rfl dX2_heldOf_9 ?_
    refine lv_iload_n hx hb dX2_heldOf_12 rfl (lv_at hl 1 rfl) ?_
    refine lv_iconst (v := 4) hx hb dX2_heldOf_13 (by decide) ?_
    refine lv_imul hx hb dX2_heldOf_14 ?_
    refine lv_iload_n hx hb dX2_heldOf_15 rfl (lv_at hl 2 rfl) ?_
    refine lv_iadd hx hb dX2_heldOf_16 ?_
    refine fr_iald C w 1 rfl (vi_place (by assumption)) dX2_heldOf_17 ?_
    refine lv_goto (tgt := 22) hx hb dX2_heldOf_18 (by decide) ?_
    subst hr hQ
    exact fr_iret (W0 := []) C hret hlk w rfl rfl rfl dX2_heldOf_22
def f_X2_putHeld (xhd : Nat → Int32) (ro : Int32) (tr : Int32) (v0 : Int32) : (Nat → Int32) := (if (f_X2_isPlace ro tr) = 0 then xhd else upd xhd (Int32.toNatClampNeg ((ro * 4) + tr)) v0)
set_option maxRecDepth 100000 in
set_option maxHeartbeats 4000000 in
theorem c_X2_putHeld (l : Launch) (D : va_G) (cI cJ : ClassId) (au auh auw : Nat) (xsc : Int32) (xtc : Int32) (xhd : Nat → Int32) (xwt : Nat → Int32) (ro : Int32) (tr : Int32) (v0 : Int32) : CV l yX2_putHeld cX2_putHeld 4 1 D cI cJ [.ref au, .int ro, .int tr, .int v0] [(au, .inr (2, [.ref auh, .ref auw, .int xsc, .int xtc])), (auh, .inl (cI, 20, .inl xhd)), (auw, .inl (cI, 4, .inl xwt))] [(au, .inr (2, [.ref auh, .ref auw, .int xsc, .int xtc])), (auh, .inl (cI, 20, .inl (f_X2_putHeld xhd ro tr v0))), (auw, .inl (cI, 4, .inl xwt))] := by
  generalize hr : f_X2_putHeld xhd ro tr v0 = r
  refine fr_entryV (by decide) rfl ?_
  intro p e s m args below meth c A Q H locs hQ C hret hlk w ls hl
  have hx := C.1
  have hb := C.2.1
  have hl : lv_has ls 4 [(0, .ref au), (1, .int ro), (2, .int tr), (3, .int v0)] := hl
  have hr : (if (f_X2_isPlace ro tr) = 0 then xhd else upd xhd (Int32.toNatClampNeg ((ro * 4) + tr)) v0) = r := hr
  refine lv_iload_n hx hb dX2_putHeld_0 rfl (lv_at hl 1 rfl) ?_
  refine lv_iload_n hx hb dX2_putHeld_1 rfl (lv_at hl 2 rfl) ?_
  refine fr_callIS (As := [.int ro, .int tr]) (rest := []) C w kf_X2_isPlace mw_11_15 (c_X2_isPlace l D cI cJ ro tr) ⟨Nat.le_of_ble_eq_true rfl, Nat.le_of_ble_eq_true rfl⟩ ⟨Nat.le_refl 0, Nat.le_refl 0⟩ [] rfl rfl rfl (ws' := [(au, .inr (2, [.ref auh, .ref auw, .int xsc, .int xtc])), (auh, .inl (cI, 20, .inl xhd)), (auw, .inl (cI, 4, .inl xwt))]) rfl rfl hl.1 rfl (Nat.le_of_ble_eq_true rfl) dX2_putHeld_2 (fun H locs w => ?_)
  refine lv_if_eq (tgt := 19) hx hb dX2_putHeld_5 (by decide) (fun c5_1 => ?_) (fun c5_1 => ?_)
  · have hr := (if_pos c5_1).symm.trans hr
    subst hr hQ
    exact fr_vret C hret hlk w rfl dX2_putHeld_19
  · have hr := (if_neg c5_1).symm.trans hr
    refine lv_aload_n hx hb dX2_putHeld_8 rfl (lv_at hl 0 rfl) ?_
    refine fr_get C w fg_X2_9 0 rfl rfl dX2_putHeld_9 ?_
    refine lv_iload_n hx hb dX2_putHeld_12 rfl (lv_at hl 1 rfl) ?_
    refine lv_iconst (v := 4) hx hb dX2_putHeld_13 (by decide) ?_
    refine lv_imul hx hb dX2_putHeld_14 ?_
    refine lv_iload_n hx hb dX2_putHeld_15 rfl (lv_at hl 2 rfl) ?_
    refine lv_iadd hx hb dX2_putHeld_16 ?_
    refine lv_iload_n hx hb dX2_putHeld_17 rfl (lv_at hl 3 rfl) ?_
    refine fr_iast C w 1 rfl (vi_place (by assumption)) (ws' := [(au, .inr (2, [.ref auh, .ref auw, .int xsc, .int xtc])), (auh, .inl (cI, 20, .inl (upd xhd (Int32.toNatClampNeg ((ro * 4) + tr)) v0))), (auw, .inl (cI, 4, .inl xwt))]) rfl dX2_putHeld_18 (fun H locs w => ?_)
    subst hr hQ
    exact fr_vret C hret hlk w rfl dX2_putHeld_19
def f_X2_weightOf (xwt : Nat → Int32) (tr : Int32) : Int32 := (if tr < 0 then 0 else (if 4 ≤ tr then 0 else xwt (Int32.toNatClampNeg tr)))
set_option maxRecDepth 100000 in
set_option maxHeartbeats 4000000 in
theorem c_X2_weightOf (l : Launch) (D : va_G) (cI cJ : ClassId) (au auh auw : Nat) (xsc : Int32) (xtc : Int32) (xhd : Nat → Int32) (xwt : Nat → Int32) (tr : Int32) : CI l yX2_weightOf cX2_weightOf 2 .int 0 D cI cJ [.ref au, .int tr] [(au, .inr (2, [.ref auh, .ref auw, .int xsc, .int xtc])), (auh, .inl (cI, 20, .inl xhd)), (auw, .inl (cI, 4, .inl xwt))] [(au, .inr (2, [.ref auh, .ref auw, .int xsc, .int xtc])), (auh, .inl (cI, 20, .inl xhd)), (auw, .inl (cI, 4, .inl xwt))] (f_X2_weightOf xwt tr) := by
  generalize hr : f_X2_weightOf xwt tr = r
  refine fr_entryI (by decide) rfl ?_
  intro p e s m args below meth c A Q H locs hQ C hret hlk w ls hl
  have hx := C.1
  have hb := C.2.1
  have hl : lv_has ls 2 [(0, .ref au), (1, .int tr)] := hl
  have hr : (if tr < 0 then 0 else (if 4 ≤ tr then 0 else xwt (Int32.toNatClampNeg tr))) = r := hr
  refine lv_iload_n hx hb dX2_weightOf_0 rfl (lv_at hl 1 rfl) ?_
  refine lv_if_lt (tgt := 18) hx hb dX2_weightOf_1 (by decide) (fun c1_1 => ?_) (fun c1_1 => ?_)
  · have hr := (if_pos c1_1).symm.trans hr
    refine lv_iconst (v := 0) hx hb dX2_weightOf_18 (by decide) ?_
    subst hr hQ
    exact fr_iret (W0 := []) C hret hlk w rfl rfl rfl dX2_weightOf_19
  · have hr := (if_neg c1_1).symm.trans hr
    refine lv_iload_n hx hb dX2_weightOf_4 rfl (lv_at hl 1 rfl) ?_
    refine lv_iconst (v := 4) hx hb dX2_weightOf_5 (by decide) ?_
    refine lv_icmp_ge (tgt := 18) hx hb dX2_weightOf_6 (by decide) (fun c6_2 => ?_) (fun c6_2 => ?_)
    · have hr := (if_pos c6_2).symm.trans hr
      refine lv_iconst (v := 0) hx hb dX2_weightOf_18 (by decide) ?_
      subst hr hQ
      exact fr_iret (W0 := []) C hret hlk w rfl rfl rfl dX2_weightOf_19
    · have hr := (if_neg c6_2).symm.trans hr
      refine lv_aload_n hx hb dX2_weightOf_9 rfl (lv_at hl 0 rfl) ?_
      refine fr_get C w fg_X2_15 0 rfl rfl dX2_weightOf_10 ?_
      refine lv_iload_n hx hb dX2_weightOf_13 rfl (lv_at hl 1 rfl) ?_
      refine fr_iald C w 2 rfl (vi_guard (by assumption) (by assumption) (by decide)) dX2_weightOf_14 ?_
      refine lv_goto (tgt := 19) hx hb dX2_weightOf_15 (by decide) ?_
      subst hr hQ
      exact fr_iret (W0 := []) C hret hlk w rfl rfl rfl dX2_weightOf_19
def f_X2_putWeight (xwt : Nat → Int32) (tr : Int32) (v0 : Int32) : (Nat → Int32) := (if tr < 0 then xwt else (if 4 ≤ tr then xwt else upd xwt (Int32.toNatClampNeg tr) v0))
set_option maxRecDepth 100000 in
set_option maxHeartbeats 4000000 in
theorem c_X2_putWeight (l : Launch) (D : va_G) (cI cJ : ClassId) (au auh auw : Nat) (xsc : Int32) (xtc : Int32) (xhd : Nat → Int32) (xwt : Nat → Int32) (tr : Int32) (v0 : Int32) : CV l yX2_putWeight cX2_putWeight 3 0 D cI cJ [.ref au, .int tr, .int v0] [(au, .inr (2, [.ref auh, .ref auw, .int xsc, .int xtc])), (auh, .inl (cI, 20, .inl xhd)), (auw, .inl (cI, 4, .inl xwt))] [(au, .inr (2, [.ref auh, .ref auw, .int xsc, .int xtc])), (auh, .inl (cI, 20, .inl xhd)), (auw, .inl (cI, 4, .inl (f_X2_putWeight xwt tr v0)))] := by
  generalize hr : f_X2_putWeight xwt tr v0 = r
  refine fr_entryV (by decide) rfl ?_
  intro p e s m args below meth c A Q H locs hQ C hret hlk w ls hl
  have hx := C.1
  have hb := C.2.1
  have hl : lv_has ls 3 [(0, .ref au), (1, .int tr), (2, .int v0)] := hl
  have hr : (if tr < 0 then xwt else (if 4 ≤ tr then xwt else upd xwt (Int32.toNatClampNeg tr) v0)) = r := hr
  refine lv_iload_n hx hb dX2_putWeight_0 rfl (lv_at hl 1 rfl) ?_
  refine lv_if_lt (tgt := 16) hx hb dX2_putWeight_1 (by decide) (fun c1_1 => ?_) (fun c1_1 => ?_)
  · have hr := (if_pos c1_1).symm.trans hr
    subst hr hQ
    exact fr_vret C hret hlk w rfl dX2_putWeight_16
  · have hr := (if_neg c1_1).symm.trans hr
    refine lv_iload_n hx hb dX2_putWeight_4 rfl (lv_at hl 1 rfl) ?_
    refine lv_iconst (v := 4) hx hb dX2_putWeight_5 (by decide) ?_
    refine lv_icmp_ge (tgt := 16) hx hb dX2_putWeight_6 (by decide) (fun c6_2 => ?_) (fun c6_2 => ?_)
    · have hr := (if_pos c6_2).symm.trans hr
      subst hr hQ
      exact fr_vret C hret hlk w rfl dX2_putWeight_16
    · have hr := (if_neg c6_2).symm.trans hr
      refine lv_aload_n hx hb dX2_putWeight_9 rfl (lv_at hl 0 rfl) ?_
      refine fr_get C w fg_X2_15 0 rfl rfl dX2_putWeight_10 ?_
      refine lv_iload_n hx hb dX2_putWeight_13 rfl (lv_at hl 1 rfl) ?_
      refine lv_iload_n hx hb dX2_putWeight_14 rfl (lv_at hl 2 rfl) ?_
      refine fr_iast C w 2 rfl (vi_guard (by assumption) (by assumption) (by decide)) (ws' := [(au, .inr (2, [.ref auh, .ref auw, .int xsc, .int xtc])), (auh, .inl (cI, 20, .inl xhd)), (auw, .inl (cI, 4, .inl (upd xwt (Int32.toNatClampNeg tr) v0)))]) rfl dX2_putWeight_15 (fun H locs w => ?_)
      subst hr hQ
      exact fr_vret C hret hlk w rfl dX2_putWeight_16
def L_X2_heldByParts_8 (xhd : Nat → Int32) (tr : Int32) : Nat → Int32 → Int32 → Int32 → Int32 × Int32 × Int32
  | 0, _, _, _ => (0, 0, 0)
  | n8 + 1, i1, i2, i3 => (if 4 ≤ i3 then (i1, i2, i3) else L_X2_heldByParts_8 xhd tr n8 (i1 + ((i2 - i2 / 10 * 10) * (f_X2_heldOf xhd i3 tr))) (i2 / 10) (i3 + 1))
def f_X2_heldByParts (xhd : Nat → Int32) (tr : Int32) (pa : Int32) : Int32 := ((fun (y8 : Int32 × Int32 × Int32) => y8.1) (L_X2_heldByParts_8 xhd tr 5 0 pa 0))
set_option maxRecDepth 100000 in
set_option maxHeartbeats 4000000 in
theorem c_X2_heldByParts (l : Launch) (D : va_G) (cI cJ : ClassId) (au auh auw : Nat) (xsc : Int32) (xtc : Int32) (xhd : Nat → Int32) (xwt : Nat → Int32) (tr : Int32) (pa : Int32) : CI l yX2_heldByParts cX2_heldByParts 6 .int 2 D cI cJ [.ref au, .int tr, .int pa] [(au, .inr (2, [.ref auh, .ref auw, .int xsc, .int xtc])), (auh, .inl (cI, 20, .inl xhd)), (auw, .inl (cI, 4, .inl xwt))] [(au, .inr (2, [.ref auh, .ref auw, .int xsc, .int xtc])), (auh, .inl (cI, 20, .inl xhd)), (auw, .inl (cI, 4, .inl xwt))] (f_X2_heldByParts xhd tr pa) := by
  generalize hr : f_X2_heldByParts xhd tr pa = r
  refine fr_entryI (by decide) rfl ?_
  intro p e s m args below meth c A Q H locs hQ C hret hlk w ls hl
  have hx := C.1
  have hb := C.2.1
  have hl : lv_has ls 6 [(0, .ref au), (1, .int tr), (2, .int pa)] := hl
  have hr : ((fun (y8 : Int32 × Int32 × Int32) => y8.1) (L_X2_heldByParts_8 xhd tr 5 0 pa 0)) = r := hr
  refine lv_iconst (v := 0) hx hb dX2_heldByParts_0 (by decide) ?_
  refine lv_istore_n (lv' := [(3, .int 0), (0, .ref au), (1, .int tr), (2, .int pa)]) hx hb dX2_heldByParts_1 rfl hl (by decide) rfl (fun ls hl => ?_)
  refine lv_iload_n hx hb dX2_heldByParts_2 rfl (lv_at hl 3 rfl) ?_
  refine lv_istore (lv' := [(4, .int pa), (3, .int 0), (0, .ref au), (1, .int tr), (2, .int pa)]) hx hb dX2_heldByParts_3 hl (by decide) rfl (fun ls hl => ?_)
  refine lv_iconst (v := 0) hx hb dX2_heldByParts_5 (by decide) ?_
  refine lv_istore (lv' := [(5, .int 0), (4, .int pa), (3, .int 0), (0, .ref au), (1, .int tr), (2, .int pa)]) hx hb dX2_heldByParts_6 hl (by decide) rfl (fun ls hl => ?_)
  obtain ⟨y8, hy8⟩ : ∃ y, y = L_X2_heldByParts_8 xhd tr 5 0 pa 0 := ⟨_, rfl⟩
  have hr : y8.1 = r := by rw [hy8]; exact hr
  have X8 : ∀ (H : Heap) (locs : List Loc), Wd D A s.heap H locs [(au, .inr (2, [.ref auh, .ref auw, .int xsc, .int xtc])), (auh, .inl (cI, 20, .inl xhd)), (auw, .inl (cI, 4, .inl xwt))] → ∀ (ls : Array Slot), lv_has ls 6 [(0, .ref au), (1, .int tr), (2, .int pa), (3, .int y8.1), (4, .int y8.2.1), (5, .int y8.2.2)] → W p l e (rl 2) s m args below meth c H locs 0 0 Q (F0 m 43 ls []) := by
    intro H locs w ls hl
    refine lv_iload_n hx hb dX2_heldByParts_43 rfl (lv_at hl 3 rfl) ?_
    subst hr hQ
    exact fr_iret (W0 := []) C hret hlk w rfl rfl rfl dX2_heldByParts_44
  have LP8 : ∀ (n8 : Nat) (k8 : Nat) (i1 : Int32) (i2 : Int32) (i3 : Int32), i3 = nI k8 → k8 ≤ 4 → 4 < k8 + n8 → L_X2_heldByParts_8 xhd tr n8 i1 i2 i3 = y8 → ∀ (H : Heap) (locs : List Loc), Wd D A s.heap H locs [(au, .inr (2, [.ref auh, .ref auw, .int xsc, .int xtc])), (auh, .inl (cI, 20, .inl xhd)), (auw, .inl (cI, 4, .inl xwt))] → ∀ (ls : Array Slot), lv_has ls 6 [(0, .ref au), (1, .int tr), (2, .int pa), (3, .int i1), (4, .int i2), (5, .int i3)] → W p l e (rl 2) s m args below meth c H locs 0 0 Q (F0 m 8 ls []) := by
    clear hr
    intro n8
    induction n8 with
    | zero => intro k8 i1 i2 i3 hk8 hkN8 hn8; exact absurd hn8 (by omega)
    | succ n8 ih8 =>
      intro k8 i1 i2 i3 hk8 hkN8 hn8 hr H locs w ls hl
      have hr : (if 4 ≤ i3 then (i1, i2, i3) else L_X2_heldByParts_8 xhd tr n8 (i1 + ((i2 - i2 / 10 * 10) * (f_X2_heldOf xhd i3 tr))) (i2 / 10) (i3 + 1)) = y8 := hr
      refine lv_iload hx hb dX2_heldByParts_8 (lv_at hl 5 rfl) ?_
      refine lv_iconst (v := 4) hx hb dX2_heldByParts_10 (by decide) ?_
      refine lv_icmp_ge (tgt := 43) hx hb dX2_heldByParts_11 (by decide) (fun c11_4 => ?_) (fun c11_4 => ?_)
      · have hr := (if_pos c11_4).symm.trans hr
        subst hr
        exact X8 H locs w ls (lv_sub hl [0, 1, 2, 3, 4, 5] rfl)
      · have hr := (if_neg c11_4).symm.trans hr
        have hkl8 := kl_of hk8 hkN8 (N := 4) (by decide) (by omega) c11_4
        refine lv_iload_n hx hb dX2_heldByParts_14 rfl (lv_at hl 3 rfl) ?_
        refine lv_iload hx hb dX2_heldByParts_15 (lv_at hl 4 rfl) ?_
        refine lv_bipush (v := 10) hx hb dX2_heldByParts_17 (by decide) ?_
        refine lv_irem hx hb dX2_heldByParts_19 (by decide) ?_
        refine lv_aload_n hx hb dX2_heldByParts_20 rfl (lv_at hl 0 rfl) ?_
        refine lv_iload hx hb dX2_heldByParts_21 (lv_at hl 5 rfl) ?_
        refine lv_iload_n hx hb dX2_heldByParts_23 rfl (lv_at hl 1 rfl) ?_
        refine fr_callIV (As := [.int i3, .int tr]) (rest := [.int (i2 - i2 / 10 * 10), .int i1]) C w kf_X2_heldOf mw_13_22 (c_X2_heldOf l D cI cJ au auh auw xsc xtc xhd xwt i3 tr) ⟨Nat.le_of_ble_eq_true rfl, Nat.le_of_ble_eq_true rfl⟩ ⟨Nat.le_refl 0, Nat.le_refl 0⟩ [0, 1, 2] rfl rfl rfl (ws' := [(au, .inr (2, [.ref auh, .ref auw, .int xsc, .int xtc])), (auh, .inl (cI, 20, .inl xhd)), (auw, .inl (cI, 4, .inl xwt))]) rfl rfl rfl rfl hl.1 rfl (Nat.le_of_ble_eq_true rfl) dX2_heldByParts_24 (fun H locs w => ?_)
        refine lv_imul hx hb dX2_heldByParts_27 ?_
        refine lv_iadd hx hb dX2_heldByParts_28 ?_
        refine lv_istore_n (lv' := [(3, .int (i1 + ((i2 - i2 / 10 * 10) * (f_X2_heldOf xhd i3 tr)))), (0, .ref au), (1, .int tr), (2, .int pa), (4, .int i2), (5, .int i3)]) hx hb dX2_heldByParts_29 rfl hl (by decide) rfl (fun ls hl => ?_)
        refine lv_iload hx hb dX2_heldByParts_30 (lv_at hl 4 rfl) ?_
        refine lv_bipush (v := 10) hx hb dX2_heldByParts_32 (by decide) ?_
        refine lv_idiv hx hb dX2_heldByParts_34 (by decide) ?_
        refine lv_istore (lv' := [(4, .int (i2 / 10)), (3, .int (i1 + ((i2 - i2 / 10 * 10) * (f_X2_heldOf xhd i3 tr)))), (0, .ref au), (1, .int tr), (2, .int pa), (5, .int i3)]) hx hb dX2_heldByParts_35 hl (by decide) rfl (fun ls hl => ?_)
        refine lv_iinc (v := i3 + 1) (lv' := [(5, .int (i3 + 1)), (4, .int (i2 / 10)), (3, .int (i1 + ((i2 - i2 / 10 * 10) * (f_X2_heldOf xhd i3 tr)))), (0, .ref au), (1, .int tr), (2, .int pa)]) hx hb dX2_heldByParts_37 hl (k := 5) rfl rfl (by decide) rfl (fun ls hl => ?_)
        refine lv_goto (tgt := 8) hx hb dX2_heldByParts_40 (by decide) ?_
        exact ih8 (k8 + 1) (i1 + ((i2 - i2 / 10 * 10) * (f_X2_heldOf xhd i3 tr))) (i2 / 10) (i3 + 1) (by rw [hk8]; exact nI_1 k8) (by omega) (by omega) hr H locs w ls (lv_sub hl [3, 4, 5, 2, 1, 0] rfl)
  exact LP8 5 0 0 pa 0 (by decide) (by omega) (by omega) hy8.symm H locs w ls (lv_sub hl [3, 4, 5, 2, 1, 0] rfl)
def L_X2_areAlike_3 (xhd : Nat → Int32) (q1 : Int32) (q2 : Int32) (us : Int32) : Nat → Int32 → Int32
  | 0, _ => 0
  | n3 + 1, i1 => (if 4 ≤ i1 then 1 else (if (f_X6_isIn us i1) = 0 then L_X2_areAlike_3 xhd q1 q2 us n3 (i1 + 1) else (if (f_X2_heldOf xhd q1 i1) = (f_X2_heldOf xhd q2 i1) then L_X2_areAlike_3 xhd q1 q2 us n3 (i1 + 1) else 0)))
def f_X2_areAlike (xhd : Nat → Int32) (q1 : Int32) (q2 : Int32) (us : Int32) : Int32 := L_X2_areAlike_3 xhd q1 q2 us 5 0
set_option maxRecDepth 100000 in
set_option maxHeartbeats 4000000 in
theorem c_X2_areAlike (l : Launch) (D : va_G) (cI cJ : ClassId) (au auh auw : Nat) (xsc : Int32) (xtc : Int32) (xhd : Nat → Int32) (xwt : Nat → Int32) (q1 : Int32) (q2 : Int32) (us : Int32) : CI l yX2_areAlike cX2_areAlike 5 .boolean 2 D cI cJ [.ref au, .int q1, .int q2, .int us] [(au, .inr (2, [.ref auh, .ref auw, .int xsc, .int xtc])), (auh, .inl (cI, 20, .inl xhd)), (auw, .inl (cI, 4, .inl xwt))] [(au, .inr (2, [.ref auh, .ref auw, .int xsc, .int xtc])), (auh, .inl (cI, 20, .inl xhd)), (auw, .inl (cI, 4, .inl xwt))] (f_X2_areAlike xhd q1 q2 us) := by
  generalize hr : f_X2_areAlike xhd q1 q2 us = r
  refine fr_entryI (by decide) rfl ?_
  intro p e s m args below meth c A Q H locs hQ C hret hlk w ls hl
  have hx := C.1
  have hb := C.2.1
  have hl : lv_has ls 5 [(0, .ref au), (1, .int q1), (2, .int q2), (3, .int us)] := hl
  have hr : L_X2_areAlike_3 xhd q1 q2 us 5 0 = r := hr
  refine lv_iconst (v := 0) hx hb dX2_areAlike_0 (by decide) ?_
  refine lv_istore (lv' := [(4, .int 0), (0, .ref au), (1, .int q1), (2, .int q2), (3, .int us)]) hx hb dX2_areAlike_1 hl (by decide) rfl (fun ls hl => ?_)
  have LP3 : ∀ (n3 : Nat) (k3 : Nat) (i1 : Int32), i1 = nI k3 → k3 ≤ 4 → 4 < k3 + n3 → L_X2_areAlike_3 xhd q1 q2 us n3 i1 = r → ∀ (H : Heap) (locs : List Loc), Wd D A s.heap H locs [(au, .inr (2, [.ref auh, .ref auw, .int xsc, .int xtc])), (auh, .inl (cI, 20, .inl xhd)), (auw, .inl (cI, 4, .inl xwt))] → ∀ (ls : Array Slot), lv_has ls 5 [(0, .ref au), (1, .int q1), (2, .int q2), (3, .int us), (4, .int i1)] → W p l e (rl 2) s m args below meth c H locs 0 0 Q (F0 m 3 ls []) := by
    skip
    intro n3
    induction n3 with
    | zero => intro k3 i1 hk3 hkN3 hn3; exact absurd hn3 (by omega)
    | succ n3 ih3 =>
      intro k3 i1 hk3 hkN3 hn3 hr H locs w ls hl
      have hr : (if 4 ≤ i1 then 1 else (if (f_X6_isIn us i1) = 0 then L_X2_areAlike_3 xhd q1 q2 us n3 (i1 + 1) else (if (f_X2_heldOf xhd q1 i1) = (f_X2_heldOf xhd q2 i1) then L_X2_areAlike_3 xhd q1 q2 us n3 (i1 + 1) else 0))) = r := hr
      refine lv_iload hx hb dX2_areAlike_3 (lv_at hl 4 rfl) ?_
      refine lv_iconst (v := 4) hx hb dX2_areAlike_5 (by decide) ?_
      refine lv_icmp_ge (tgt := 43) hx hb dX2_areAlike_6 (by decide) (fun c6_2 => ?_) (fun c6_2 => ?_)
      · have hr := (if_pos c6_2).symm.trans hr
        refine lv_iconst (v := 1) hx hb dX2_areAlike_43 (by decide) ?_
        subst hr hQ
        exact fr_iret (W0 := []) C hret hlk w rfl rfl rfl dX2_areAlike_44
      · have hr := (if_neg c6_2).symm.trans hr
        have hkl3 := kl_of hk3 hkN3 (N := 4) (by decide) (by omega) c6_2
        refine lv_iload_n hx hb dX2_areAlike_9 rfl (lv_at hl 3 rfl) ?_
        refine lv_iload hx hb dX2_areAlike_10 (lv_at hl 4 rfl) ?_
        refine fr_callIN (As := [.int us, .int i1]) (rest := []) C w kf_X6_isIn C.2.2.2.2.2.2.1 (c_X6_isIn l D cI cJ us i1) ⟨Nat.le_of_ble_eq_true rfl, Nat.le_of_ble_eq_true rfl⟩ ⟨Nat.le_refl 0, Nat.le_refl 0⟩ [] rfl rfl rfl (ws' := [(au, .inr (2, [.ref auh, .ref auw, .int xsc, .int xtc])), (auh, .inl (cI, 20, .inl xhd)), (auw, .inl (cI, 4, .inl xwt))]) rfl rfl hl.1 rfl (Nat.le_of_ble_eq_true rfl) dX2_areAlike_12 (fun H locs w => ?_)
        refine lv_if_eq (tgt := 37) hx hb dX2_areAlike_15 (by decide) (fun c15_3 => ?_) (fun c15_3 => ?_)
        · have hr := (if_pos c15_3).symm.trans hr
          refine lv_iinc (v := i1 + 1) (lv' := [(4, .int (i1 + 1)), (0, .ref au), (1, .int q1), (2, .int q2), (3, .int us)]) hx hb dX2_areAlike_37 hl (k := 4) rfl rfl (by decide) rfl (fun ls hl => ?_)
          refine lv_goto (tgt := 3) hx hb dX2_areAlike_40 (by decide) ?_
          exact ih3 (k3 + 1) (i1 + 1) (by rw [hk3]; exact nI_1 k3) (by omega) (by omega) hr H locs w ls (lv_sub hl [1, 2, 3, 4, 0] rfl)
        · have hr := (if_neg c15_3).symm.trans hr
          refine lv_aload_n hx hb dX2_areAlike_18 rfl (lv_at hl 0 rfl) ?_
          refine lv_iload_n hx hb dX2_areAlike_19 rfl (lv_at hl 1 rfl) ?_
          refine lv_iload hx hb dX2_areAlike_20 (lv_at hl 4 rfl) ?_
          refine fr_callIV (As := [.int q1, .int i1]) (rest := []) C w kf_X2_heldOf mw_13_22 (c_X2_heldOf l D cI cJ au auh auw xsc xtc xhd xwt q1 i1) ⟨Nat.le_of_ble_eq_true rfl, Nat.le_of_ble_eq_true rfl⟩ ⟨Nat.le_refl 0, Nat.le_refl 0⟩ [0, 1, 2] rfl rfl rfl (ws' := [(au, .inr (2, [.ref auh, .ref auw, .int xsc, .int xtc])), (auh, .inl (cI, 20, .inl xhd)), (auw, .inl (cI, 4, .inl xwt))]) rfl rfl rfl rfl hl.1 rfl (Nat.le_of_ble_eq_true rfl) dX2_areAlike_22 (fun H locs w => ?_)
          refine lv_aload_n hx hb dX2_areAlike_25 rfl (lv_at hl 0 rfl) ?_
          refine lv_iload_n hx hb dX2_areAlike_26 rfl (lv_at hl 2 rfl) ?_
          refine lv_iload hx hb dX2_areAlike_27 (lv_at hl 4 rfl) ?_
          refine fr_callIV (As := [.int q2, .int i1]) (rest := [.int (f_X2_heldOf xhd q1 i1)]) C w kf_X2_heldOf mw_13_22 (c_X2_heldOf l D cI cJ au auh auw xsc xtc xhd xwt q2 i1) ⟨Nat.le_of_ble_eq_true rfl, Nat.le_of_ble_eq_true rfl⟩ ⟨Nat.le_refl 0, Nat.le_refl 0⟩ [0, 1, 2] rfl rfl rfl (ws' := [(au, .inr (2, [.ref auh, .ref auw, .int xsc, .int xtc])), (auh, .inl (cI, 20, .inl xhd)), (auw, .inl (cI, 4, .inl xwt))]) rfl rfl rfl rfl hl.1 rfl (Nat.le_of_ble_eq_true rfl) dX2_areAlike_29 (fun H locs w => ?_)
          refine lv_icmp_eq (tgt := 37) hx hb dX2_areAlike_32 (by decide) (fun c32_4 => ?_) (fun c32_4 => ?_)
          · have hr := (if_pos c32_4).symm.trans hr
            refine lv_iinc (v := i1 + 1) (lv' := [(4, .int (i1 + 1)), (0, .ref au), (1, .int q1), (2, .int q2), (3, .int us)]) hx hb dX2_areAlike_37 hl (k := 4) rfl rfl (by decide) rfl (fun ls hl => ?_)
            refine lv_goto (tgt := 3) hx hb dX2_areAlike_40 (by decide) ?_
            exact ih3 (k3 + 1) (i1 + 1) (by rw [hk3]; exact nI_1 k3) (by omega) (by omega) hr H locs w ls (lv_sub hl [1, 2, 3, 4, 0] rfl)
          · have hr := (if_neg c32_4).symm.trans hr
            refine lv_iconst (v := 0) hx hb dX2_areAlike_35 (by decide) ?_
            subst hr hQ
            exact fr_iret (W0 := []) C hret hlk w rfl rfl rfl dX2_areAlike_36
  exact LP3 5 0 0 (by decide) (by omega) (by omega) hr H locs w ls (lv_sub hl [1, 2, 3, 4, 0] rfl)
def L_X2_product_6 (xhd : Nat → Int32) (xwt : Nat → Int32) (ro : Int32) (ot : Int32) (us : Int32) : Nat → Int64 → Int32 → Int64 × Int32
  | 0, _, _ => (0, 0)
  | n6 + 1, i1, i2 => (if 4 ≤ i2 then (i1, i2) else ((fun (v5 : Int64) => L_X2_product_6 xhd xwt ro ot us n6 v5 (i2 + 1)) (if (f_X6_isIn us i2) = 0 then i1 else i1 + (((Int32.toInt64 (f_X2_weightOf xwt i2)) * (Int32.toInt64 (f_X2_heldOf xhd ro i2))) * (Int32.toInt64 (f_X2_heldOf xhd ot i2))))))
def f_X2_product (xhd : Nat → Int32) (xwt : Nat → Int32) (ro : Int32) (ot : Int32) (us : Int32) : Int64 := ((fun (y6 : Int64 × Int32) => y6.1) (L_X2_product_6 xhd xwt ro ot us 5 0 0))
set_option maxRecDepth 100000 in
set_option maxHeartbeats 4000000 in
theorem c_X2_product (l : Launch) (D : va_G) (cI cJ : ClassId) (au auh auw : Nat) (xsc : Int32) (xtc : Int32) (xhd : Nat → Int32) (xwt : Nat → Int32) (ro : Int32) (ot : Int32) (us : Int32) : CL l yX2_product cX2_product 7 2 D cI cJ [.ref au, .int ro, .int ot, .int us] [(au, .inr (2, [.ref auh, .ref auw, .int xsc, .int xtc])), (auh, .inl (cI, 20, .inl xhd)), (auw, .inl (cI, 4, .inl xwt))] [(au, .inr (2, [.ref auh, .ref auw, .int xsc, .int xtc])), (auh, .inl (cI, 20, .inl xhd)), (auw, .inl (cI, 4, .inl xwt))] (f_X2_product xhd xwt ro ot us) := by
  generalize hr : f_X2_product xhd xwt ro ot us = r
  refine fr_entryL (by decide) rfl ?_
  intro p e s m args below meth c A Q H locs hQ C hret hlk w ls hl
  have hx := C.1
  have hb := C.2.1
  have hl : lv_has ls 7 [(0, .ref au), (1, .int ro), (2, .int ot), (3, .int us)] := hl
  have hr : ((fun (y6 : Int64 × Int32) => y6.1) (L_X2_product_6 xhd xwt ro ot us 5 0 0)) = r := hr
  refine lv_lconst (v := 0) hx hb dX2_product_0 (by decide) ?_
  refine lv_lstore (lv' := [(4, .long 0), (0, .ref au), (1, .int ro), (2, .int ot), (3, .int us)]) hx hb dX2_product_1 hl (by decide) rfl (fun ls hl => ?_)
  refine lv_iconst (v := 0) hx hb dX2_product_3 (by decide) ?_
  refine lv_istore (lv' := [(6, .int 0), (4, .long 0), (0, .ref au), (1, .int ro), (2, .int ot), (3, .int us)]) hx hb dX2_product_4 hl (by decide) rfl (fun ls hl => ?_)
  obtain ⟨y6, hy6⟩ : ∃ y, y = L_X2_product_6 xhd xwt ro ot us 5 0 0 := ⟨_, rfl⟩
  have hr : y6.1 = r := by rw [hy6]; exact hr
  have X6 : ∀ (H : Heap) (locs : List Loc), Wd D A s.heap H locs [(au, .inr (2, [.ref auh, .ref auw, .int xsc, .int xtc])), (auh, .inl (cI, 20, .inl xhd)), (auw, .inl (cI, 4, .inl xwt))] → ∀ (ls : Array Slot), lv_has ls 7 [(0, .ref au), (1, .int ro), (2, .int ot), (3, .int us), (4, .long y6.1), (6, .int y6.2)] → W p l e (rl 2) s m args below meth c H locs 0 0 Q (F0 m 57 ls []) := by
    intro H locs w ls hl
    refine lv_lload hx hb dX2_product_57 (lv_at hl 4 rfl) ?_
    subst hr hQ
    exact fr_lret C hret hlk w rfl rfl dX2_product_59
  have LP6 : ∀ (n6 : Nat) (k6 : Nat) (i1 : Int64) (i2 : Int32), i2 = nI k6 → k6 ≤ 4 → 4 < k6 + n6 → L_X2_product_6 xhd xwt ro ot us n6 i1 i2 = y6 → ∀ (H : Heap) (locs : List Loc), Wd D A s.heap H locs [(au, .inr (2, [.ref auh, .ref auw, .int xsc, .int xtc])), (auh, .inl (cI, 20, .inl xhd)), (auw, .inl (cI, 4, .inl xwt))] → ∀ (ls : Array Slot), lv_has ls 7 [(0, .ref au), (1, .int ro), (2, .int ot), (3, .int us), (4, .long i1), (6, .int i2)] → W p l e (rl 2) s m args below meth c H locs 0 0 Q (F0 m 6 ls []) := by
    clear hr
    intro n6
    induction n6 with
    | zero => intro k6 i1 i2 hk6 hkN6 hn6; exact absurd hn6 (by omega)
    | succ n6 ih6 =>
      intro k6 i1 i2 hk6 hkN6 hn6 hr H locs w ls hl
      have hr : (if 4 ≤ i2 then (i1, i2) else ((fun (v5 : Int64) => L_X2_product_6 xhd xwt ro ot us n6 v5 (i2 + 1)) (if (f_X6_isIn us i2) = 0 then i1 else i1 + (((Int32.toInt64 (f_X2_weightOf xwt i2)) * (Int32.toInt64 (f_X2_heldOf xhd ro i2))) * (Int32.toInt64 (f_X2_heldOf xhd ot i2)))))) = y6 := hr
      refine lv_iload hx hb dX2_product_6 (lv_at hl 5 rfl) ?_
      refine lv_iconst (v := 4) hx hb dX2_product_8 (by decide) ?_
      refine lv_icmp_ge (tgt := 57) hx hb dX2_product_9 (by decide) (fun c9_3 => ?_) (fun c9_3 => ?_)
      · have hr := (if_pos c9_3).symm.trans hr
        subst hr
        exact X6 H locs w ls (lv_sub hl [0, 1, 2, 3, 4, 5] rfl)
      · have hr := (if_neg c9_3).symm.trans hr
        have hkl6 := kl_of hk6 hkN6 (N := 4) (by decide) (by omega) c9_3
        refine lv_iload_n hx hb dX2_product_12 rfl (lv_at hl 3 rfl) ?_
        refine lv_iload hx hb dX2_product_13 (lv_at hl 5 rfl) ?_
        refine fr_callIN (As := [.int us, .int i2]) (rest := []) C w kf_X6_isIn C.2.2.2.2.2.2.1 (c_X6_isIn l D cI cJ us i2) ⟨Nat.le_of_ble_eq_true rfl, Nat.le_of_ble_eq_true rfl⟩ ⟨Nat.le_refl 0, Nat.le_refl 0⟩ [] rfl rfl rfl (ws' := [(au, .inr (2, [.ref auh, .ref auw, .int xsc, .int xtc])), (auh, .inl (cI, 20, .inl xhd)), (auw, .inl (cI, 4, .inl xwt))]) rfl rfl hl.1 rfl (Nat.le_of_ble_eq_true rfl) dX2_product_15 (fun H locs w => ?_)
        have J51_6 : ∀ (v5 : Int64), v5 = (if (f_X6_isIn us i2) = 0 then i1 else i1 + (((Int32.toInt64 (f_X2_weightOf xwt i2)) * (Int32.toInt64 (f_X2_heldOf xhd ro i2))) * (Int32.toInt64 (f_X2_heldOf xhd ot i2)))) → ∀ (H : Heap) (locs : List Loc), Wd D A s.heap H locs [(au, .inr (2, [.ref auh, .ref auw, .int xsc, .int xtc])), (auh, .inl (cI, 20, .inl xhd)), (auw, .inl (cI, 4, .inl xwt))] → ∀ (ls : Array Slot), lv_has ls 7 [(0, .ref au), (1, .int ro), (2, .int ot), (3, .int us), (4, .long v5), (6, .int i2)] → W p l e (rl 2) s m args below meth c H locs 0 0 Q (F0 m 51 ls []) := by
          intro v5 ev5 H locs w ls hl
          have hr : L_X2_product_6 xhd xwt ro ot us n6 v5 (i2 + 1) = y6 := by subst ev5; exact hr
          refine lv_iinc (v := i2 + 1) (lv' := [(6, .int (i2 + 1)), (0, .ref au), (1, .int ro), (2, .int ot), (3, .int us), (4, .long v5)]) hx hb dX2_product_51 hl (k := 5) rfl rfl (by decide) rfl (fun ls hl => ?_)
          refine lv_goto (tgt := 6) hx hb dX2_product_54 (by decide) ?_
          exact ih6 (k6 + 1) v5 (i2 + 1) (by rw [hk6]; exact nI_1 k6) (by omega) (by omega) hr H locs w ls (lv_sub hl [1, 2, 3, 4, 5, 0] rfl)
        refine lv_if_eq (tgt := 51) hx hb dX2_product_18 (by decide) (fun c18_4 => ?_) (fun c18_4 => ?_)
        · exact J51_6 i1 (by rw [if_pos c18_4]) _ _ w ls (lv_sub hl [0, 1, 2, 3, 4, 5] rfl)
        · refine lv_lload hx hb dX2_product_21 (lv_at hl 4 rfl) ?_
          refine lv_aload_n hx hb dX2_product_23 rfl (lv_at hl 0 rfl) ?_
          refine lv_iload hx hb dX2_product_24 (lv_at hl 5 rfl) ?_
          refine fr_callIV (As := [.int i2]) (rest := [.long i1]) C w kf_X2_weightOf mw_17_22 (c_X2_weightOf l D cI cJ au auh auw xsc xtc xhd xwt i2) ⟨Nat.le_of_ble_eq_true rfl, Nat.le_of_ble_eq_true rfl⟩ ⟨Nat.le_refl 0, Nat.le_refl 0⟩ [0, 1, 2] rfl rfl rfl (ws' := [(au, .inr (2, [.ref auh, .ref auw, .int xsc, .int xtc])), (auh, .inl (cI, 20, .inl xhd)), (auw, .inl (cI, 4, .inl xwt))]) rfl rfl rfl rfl hl.1 rfl (Nat.le_of_ble_eq_true rfl) dX2_product_26 (fun H locs w => ?_)
          refine lv_i2l (v := (Int32.toInt64 (f_X2_weightOf xwt i2))) hx hb dX2_product_29 rfl ?_
          refine lv_aload_n hx hb dX2_product_30 rfl (lv_at hl 0 rfl) ?_
          refine lv_iload_n hx hb dX2_product_31 rfl (lv_at hl 1 rfl) ?_
          refine lv_iload hx hb dX2_product_32 (lv_at hl 5 rfl) ?_
          refine fr_callIV (As := [.int ro, .int i2]) (rest := [.long (Int32.toInt64 (f_X2_weightOf xwt i2)), .long i1]) C w kf_X2_heldOf mw_13_22 (c_X2_heldOf l D cI cJ au auh auw xsc xtc xhd xwt ro i2) ⟨Nat.le_of_ble_eq_true rfl, Nat.le_of_ble_eq_true rfl⟩ ⟨Nat.le_refl 0, Nat.le_refl 0⟩ [0, 1, 2] rfl rfl rfl (ws' := [(au, .inr (2, [.ref auh, .ref auw, .int xsc, .int xtc])), (auh, .inl (cI, 20, .inl xhd)), (auw, .inl (cI, 4, .inl xwt))]) rfl rfl rfl rfl hl.1 rfl (Nat.le_of_ble_eq_true rfl) dX2_product_34 (fun H locs w => ?_)
          refine lv_i2l (v := (Int32.toInt64 (f_X2_heldOf xhd ro i2))) hx hb dX2_product_37 rfl ?_
          refine lv_lmul hx hb dX2_product_38 ?_
          refine lv_aload_n hx hb dX2_product_39 rfl (lv_at hl 0 rfl) ?_
          refine lv_iload_n hx hb dX2_product_40 rfl (lv_at hl 2 rfl) ?_
          refine lv_iload hx hb dX2_product_41 (lv_at hl 5 rfl) ?_
          refine fr_callIV (As := [.int ot, .int i2]) (rest := [.long ((Int32.toInt64 (f_X2_weightOf xwt i2)) * (Int32.toInt64 (f_X2_heldOf xhd ro i2))), .long i1]) C w kf_X2_heldOf mw_13_22 (c_X2_heldOf l D cI cJ au auh auw xsc xtc xhd xwt ot i2) ⟨Nat.le_of_ble_eq_true rfl, Nat.le_of_ble_eq_true rfl⟩ ⟨Nat.le_refl 0, Nat.le_refl 0⟩ [0, 1, 2] rfl rfl rfl (ws' := [(au, .inr (2, [.ref auh, .ref auw, .int xsc, .int xtc])), (auh, .inl (cI, 20, .inl xhd)), (auw, .inl (cI, 4, .inl xwt))]) rfl rfl rfl rfl hl.1 rfl (Nat.le_of_ble_eq_true rfl) dX2_product_43 (fun H locs w => ?_)
          refine lv_i2l (v := (Int32.toInt64 (f_X2_heldOf xhd ot i2))) hx hb dX2_product_46 rfl ?_
          refine lv_lmul hx hb dX2_product_47 ?_
          refine lv_ladd hx hb dX2_product_48 ?_
          refine lv_lstore (lv' := [(4, .long (i1 + (((Int32.toInt64 (f_X2_weightOf xwt i2)) * (Int32.toInt64 (f_X2_heldOf xhd ro i2))) * (Int32.toInt64 (f_X2_heldOf xhd ot i2))))), (0, .ref au), (1, .int ro), (2, .int ot), (3, .int us), (6, .int i2)]) hx hb dX2_product_49 hl (by decide) rfl (fun ls hl => ?_)
          exact J51_6 (i1 + (((Int32.toInt64 (f_X2_weightOf xwt i2)) * (Int32.toInt64 (f_X2_heldOf xhd ro i2))) * (Int32.toInt64 (f_X2_heldOf xhd ot i2)))) (by rw [if_neg c18_4]) _ _ w ls (lv_sub hl [1, 2, 3, 4, 0, 5] rfl)
  exact LP6 5 0 0 0 (by decide) (by omega) (by omega) hy6.symm H locs w ls (lv_sub hl [2, 3, 4, 5, 1, 0] rfl)
end
section
theorem mw_16_3 : Cond.methodLink RX2 51 yX2_areAlike ∈ wsL_law := ck_16 _ (List.mem_of_getElem? (i := 3) rfl)
theorem mw_16_6 : Cond.code yX2_areAlike cX2_areAlike 5 (some .boolean) ∈ wsL_law := ck_16 _ (List.mem_of_getElem? (i := 6) rfl)
theorem mw_16_4 : Cond.instanceMethod yX2_areAlike ∈ wsL_law := ck_16 _ (List.mem_of_getElem? (i := 4) rfl)
theorem mw_16_5 : Cond.selects RX2 yX2_areAlike yX2_areAlike ∈ wsL_law := ck_16 _ (List.mem_of_getElem? (i := 5) rfl)
theorem mw_9_22 : Cond.methodLink RX2 18 yX5_sourcesRead ∈ wsL_law := ck_9 _ (List.mem_of_getElem? (i := 22) rfl)
theorem mw_10_1 : Cond.code yX5_sourcesRead cX5_sourcesRead 1 (some .int) ∈ wsL_law := ck_10 _ (List.mem_of_getElem? (i := 1) rfl)
theorem mw_9_23 : Cond.instanceMethod yX5_sourcesRead ∈ wsL_law := ck_9 _ (List.mem_of_getElem? (i := 23) rfl)
theorem mw_10_0 : Cond.selects RX5 yX5_sourcesRead yX5_sourcesRead ∈ wsL_law := ck_10 _ (List.mem_of_getElem? (i := 0) rfl)
theorem mw_10_2 : Cond.methodLink RX2 28 yX5_tracersRead ∈ wsL_law := ck_10 _ (List.mem_of_getElem? (i := 2) rfl)
theorem mw_10_5 : Cond.code yX5_tracersRead cX5_tracersRead 1 (some .int) ∈ wsL_law := ck_10 _ (List.mem_of_getElem? (i := 5) rfl)
theorem mw_10_3 : Cond.instanceMethod yX5_tracersRead ∈ wsL_law := ck_10 _ (List.mem_of_getElem? (i := 3) rfl)
theorem mw_10_4 : Cond.selects RX5 yX5_tracersRead yX5_tracersRead ∈ wsL_law := ck_10 _ (List.mem_of_getElem? (i := 4) rfl)
theorem mw_10_6 : Cond.methodLink RX2 34 yX5_draftOf ∈ wsL_law := ck_10 _ (List.mem_of_getElem? (i := 6) rfl)
theorem mw_10_9 : Cond.code yX5_draftOf cX5_draftOf 4 (some .int) ∈ wsL_law := ck_10 _ (List.mem_of_getElem? (i := 9) rfl)
theorem mw_10_7 : Cond.instanceMethod yX5_draftOf ∈ wsL_law := ck_10 _ (List.mem_of_getElem? (i := 7) rfl)
theorem mw_10_8 : Cond.selects RX5 yX5_draftOf yX5_draftOf ∈ wsL_law := ck_10 _ (List.mem_of_getElem? (i := 8) rfl)
theorem fp_X2_24 : FP RX2 24 2 2 .int := ⟨RX2, TX2, 4, tyX2, rfl, by decide, inlX2, mw_9_20, tyX2_ok, nmX2, rfl, by decide +kernel⟩
theorem fp_X2_31 : FP RX2 31 2 3 .int := ⟨RX2, TX2, 4, tyX2, rfl, by decide, inlX2, mw_9_21, tyX2_ok, nmX2, rfl, by decide +kernel⟩
theorem kf_X2_areAlike : KV RX2 yX2_areAlike cX2_areAlike 5 (some .boolean) 3 := ⟨mw_16_6, mw_16_4, mw_16_5, mw_1_22, by decide, by decide, by decide +kernel⟩
theorem kf_X5_sourcesRead : KV RX5 yX5_sourcesRead cX5_sourcesRead 1 (some .int) 0 := ⟨mw_10_1, mw_9_23, mw_10_0, mw_1_18, by decide, by decide, by decide +kernel⟩
theorem kf_X5_tracersRead : KV RX5 yX5_tracersRead cX5_tracersRead 1 (some .int) 0 := ⟨mw_10_5, mw_10_3, mw_10_4, mw_1_18, by decide, by decide, by decide +kernel⟩
theorem kf_X5_draftOf : KV RX5 yX5_draftOf cX5_draftOf 4 (some .int) 2 := ⟨mw_10_9, mw_10_7, mw_10_8, mw_1_18, by decide, by decide, by decide +kernel⟩
def L_X2_firstAlike_2 (xhd : Nat → Int32) (q1 : Int32) (us : Int32) : Nat → Int32 → Int32
  | 0, _ => 0
  | n2 + 1, i1 => (if q1 ≤ i1 then q1 else (if (f_X2_areAlike xhd i1 q1 us) = 0 then L_X2_firstAlike_2 xhd q1 us n2 (i1 + 1) else i1))
def f_X2_firstAlike (xhd : Nat → Int32) (q1 : Int32) (us : Int32) : Int32 := L_X2_firstAlike_2 xhd q1 us 5 0
set_option maxRecDepth 100000 in
set_option maxHeartbeats 4000000 in
theorem c_X2_firstAlike (l : Launch) (D : va_G) (cI cJ : ClassId) (au auh auw : Nat) (xsc : Int32) (xtc : Int32) (xhd : Nat → Int32) (xwt : Nat → Int32) (q1 : Int32) (us : Int32) (hso : ∃ n : Nat, n ≤ 4 ∧ q1 = nI n) : CI l yX2_firstAlike cX2_firstAlike 4 .int 3 D cI cJ [.ref au, .int q1, .int us] [(au, .inr (2, [.ref auh, .ref auw, .int xsc, .int xtc])), (auh, .inl (cI, 20, .inl xhd)), (auw, .inl (cI, 4, .inl xwt))] [(au, .inr (2, [.ref auh, .ref auw, .int xsc, .int xtc])), (auh, .inl (cI, 20, .inl xhd)), (auw, .inl (cI, 4, .inl xwt))] (f_X2_firstAlike xhd q1 us) := by
  generalize hr : f_X2_firstAlike xhd q1 us = r
  obtain ⟨nso, hso1, hso2⟩ := id hso
  refine fr_entryI (by decide) rfl ?_
  intro p e s m args below meth c A Q H locs hQ C hret hlk w ls hl
  have hx := C.1
  have hb := C.2.1
  have hl : lv_has ls 4 [(0, .ref au), (1, .int q1), (2, .int us)] := hl
  have hr : L_X2_firstAlike_2 xhd q1 us 5 0 = r := hr
  refine lv_iconst (v := 0) hx hb dX2_firstAlike_0 (by decide) ?_
  refine lv_istore_n (lv' := [(3, .int 0), (0, .ref au), (1, .int q1), (2, .int us)]) hx hb dX2_firstAlike_1 rfl hl (by decide) rfl (fun ls hl => ?_)
  have LP2 : ∀ (n2 : Nat) (k2 : Nat) (i1 : Int32), i1 = nI k2 → k2 ≤ nso → nso < k2 + n2 → L_X2_firstAlike_2 xhd q1 us n2 i1 = r → ∀ (H : Heap) (locs : List Loc), Wd D A s.heap H locs [(au, .inr (2, [.ref auh, .ref auw, .int xsc, .int xtc])), (auh, .inl (cI, 20, .inl xhd)), (auw, .inl (cI, 4, .inl xwt))] → ∀ (ls : Array Slot), lv_has ls 4 [(0, .ref au), (1, .int q1), (2, .int us), (3, .int i1)] → W p l e (rl 3) s m args below meth c H locs 0 0 Q (F0 m 2 ls []) := by
    skip
    intro n2
    induction n2 with
    | zero => intro k2 i1 hk2 hkN2 hn2; exact absurd hn2 (by omega)
    | succ n2 ih2 =>
      intro k2 i1 hk2 hkN2 hn2 hr H locs w ls hl
      have hr : (if q1 ≤ i1 then q1 else (if (f_X2_areAlike xhd i1 q1 us) = 0 then L_X2_firstAlike_2 xhd q1 us n2 (i1 + 1) else i1)) = r := hr
      refine lv_iload_n hx hb dX2_firstAlike_2 rfl (lv_at hl 3 rfl) ?_
      refine lv_iload_n hx hb dX2_firstAlike_3 rfl (lv_at hl 1 rfl) ?_
      refine lv_icmp_ge (tgt := 25) hx hb dX2_firstAlike_4 (by decide) (fun c4_2 => ?_) (fun c4_2 => ?_)
      · have hr := (if_pos c4_2).symm.trans hr
        refine lv_iload_n hx hb dX2_firstAlike_25 rfl (lv_at hl 1 rfl) ?_
        subst hr hQ
        exact fr_iret (W0 := []) C hret hlk w rfl rfl rfl dX2_firstAlike_26
      · have hr := (if_neg c4_2).symm.trans hr
        have hkl2 := kl_of hk2 hkN2 (N := nso) hso2 (by omega) c4_2
        refine lv_aload_n hx hb dX2_firstAlike_7 rfl (lv_at hl 0 rfl) ?_
        refine lv_iload_n hx hb dX2_firstAlike_8 rfl (lv_at hl 3 rfl) ?_
        refine lv_iload_n hx hb dX2_firstAlike_9 rfl (lv_at hl 1 rfl) ?_
        refine lv_iload_n hx hb dX2_firstAlike_10 rfl (lv_at hl 2 rfl) ?_
        refine fr_callIV (As := [.int i1, .int q1, .int us]) (rest := []) C w kf_X2_areAlike mw_16_3 (c_X2_areAlike l D cI cJ au auh auw xsc xtc xhd xwt i1 q1 us) ⟨Nat.le_of_ble_eq_true rfl, Nat.le_of_ble_eq_true rfl⟩ ⟨Nat.le_refl 0, Nat.le_refl 0⟩ [0, 1, 2] rfl rfl rfl (ws' := [(au, .inr (2, [.ref auh, .ref auw, .int xsc, .int xtc])), (auh, .inl (cI, 20, .inl xhd)), (auw, .inl (cI, 4, .inl xwt))]) rfl rfl rfl rfl hl.1 rfl (Nat.le_of_ble_eq_true rfl) dX2_firstAlike_11 (fun H locs w => ?_)
        refine lv_if_eq (tgt := 19) hx hb dX2_firstAlike_14 (by decide) (fun c14_3 => ?_) (fun c14_3 => ?_)
        · have hr := (if_pos c14_3).symm.trans hr
          refine lv_iinc (v := i1 + 1) (lv' := [(3, .int (i1 + 1)), (0, .ref au), (1, .int q1), (2, .int us)]) hx hb dX2_firstAlike_19 hl (k := 3) rfl rfl (by decide) rfl (fun ls hl => ?_)
          refine lv_goto (tgt := 2) hx hb dX2_firstAlike_22 (by decide) ?_
          exact ih2 (k2 + 1) (i1 + 1) (by rw [hk2]; exact nI_1 k2) (by omega) (by omega) hr H locs w ls (lv_sub hl [1, 2, 3, 0] rfl)
        · have hr := (if_neg c14_3).symm.trans hr
          refine lv_iload_n hx hb dX2_firstAlike_17 rfl (lv_at hl 3 rfl) ?_
          subst hr hQ
          exact fr_iret (W0 := []) C hret hlk w rfl rfl rfl dX2_firstAlike_18
  exact LP2 5 0 0 (by decide) (by omega) (by omega) hr H locs w ls (lv_sub hl [1, 2, 3, 0] rfl)
def L_X2_become_25 (xdr : Nat → Int32) (i1 : Int32) : Nat → Int32 → (Nat → Int32) → Int32 × (Nat → Int32)
  | 0, _, _ => (0, fun _ => 0)
  | n25 + 1, i5, w6 => (if 4 ≤ i5 then (i5, w6) else L_X2_become_25 xdr i1 n25 (i5 + 1) (upd w6 (Int32.toNatClampNeg ((i5 * 4) + i1)) (f_X5_draftOf xdr i5 i1)))
def L_X2_become_18 (xdr : Nat → Int32) : Nat → Int32 → (Nat → Int32) → (Nat → Int32) → Int32 × (Nat → Int32) × (Nat → Int32)
  | 0, _, _, _ => (0, fun _ => 0, fun _ => 0)
  | n18 + 1, i1, w2, w3 => (if 4 ≤ i1 then (i1, w2, w3) else ((fun (y25 : Int32 × (Nat → Int32)) => L_X2_become_18 xdr n18 (i1 + 1) (upd y25.2 (Int32.toNatClampNeg (16 + i1)) 0) (upd w3 (Int32.toNatClampNeg i1) 1)) (L_X2_become_25 xdr i1 5 0 w2)))
def f_X2_become (xhd : Nat → Int32) (xwt : Nat → Int32) (xso : Int32) (xtr : Int32) (xdr : Nat → Int32) : Int32 × Int32 × (Nat → Int32) × (Nat → Int32) := ((fun (y18 : Int32 × (Nat → Int32) × (Nat → Int32)) => ((f_X5_sourcesRead xso), (f_X5_tracersRead xtr), y18.2.1, y18.2.2)) (L_X2_become_18 xdr 5 0 xhd xwt))
set_option maxRecDepth 100000 in
set_option maxHeartbeats 4000000 in
theorem c_X2_become (l : Launch) (D : va_G) (cI cJ : ClassId) (au auh auw ar ard : Nat) (xsc : Int32) (xtc : Int32) (xhd : Nat → Int32) (xwt : Nat → Int32) (xso : Int32) (xtr : Int32) (xwi : Int32) (xnu : Int32) (xdr : Nat → Int32)  : CV l yX2_become cX2_become 4 1 D cI cJ [.ref au, .ref ar] [(au, .inr (2, [.ref auh, .ref auw, .int xsc, .int xtc])), (auh, .inl (cI, 20, .inl xhd)), (auw, .inl (cI, 4, .inl xwt)), (ar, .inr (5, [.ref ard, .int xso, .int xtr, .int xwi, .int xnu])), (ard, .inl (cI, 16, .inl xdr))] [(au, .inr (2, [.ref auh, .ref auw, .int ((f_X2_become xhd xwt xso xtr xdr).1), .int ((f_X2_become xhd xwt xso xtr xdr).2.1)])), (auh, .inl (cI, 20, .inl ((f_X2_become xhd xwt xso xtr xdr).2.2.1))), (auw, .inl (cI, 4, .inl ((f_X2_become xhd xwt xso xtr xdr).2.2.2))), (ar, .inr (5, [.ref ard, .int xso, .int xtr, .int xwi, .int xnu])), (ard, .inl (cI, 16, .inl xdr))] := by
  generalize hr : f_X2_become xhd xwt xso xtr xdr = r
  refine fr_entryV (by decide) rfl ?_
  intro p e s m args below meth c A Q H locs hQ C hret hlk w ls hl
  have hx := C.1
  have hb := C.2.1
  have hl : lv_has ls 4 [(0, .ref au), (1, .ref ar)] := hl
  have hr : ((fun (y18 : Int32 × (Nat → Int32) × (Nat → Int32)) => ((f_X5_sourcesRead xso), (f_X5_tracersRead xtr), y18.2.1, y18.2.2)) (L_X2_become_18 xdr 5 0 xhd xwt)) = r := hr
  refine lv_aload_n hx hb dX2_become_0 rfl (lv_at hl 0 rfl) ?_
  refine lv_aload_n hx hb dX2_become_1 rfl (lv_at hl 1 rfl) ?_
  refine fr_callIV (As := []) (rest := [.ref au]) C w kf_X5_sourcesRead mw_9_22 (c_X5_sourcesRead l D cI cJ ar ard xso xtr xwi xnu xdr) ⟨Nat.le_of_ble_eq_true rfl, Nat.le_of_ble_eq_true rfl⟩ ⟨Nat.le_refl 0, Nat.le_refl 0⟩ [3, 4] rfl rfl rfl (ws' := [(au, .inr (2, [.ref auh, .ref auw, .int xsc, .int xtc])), (auh, .inl (cI, 20, .inl xhd)), (auw, .inl (cI, 4, .inl xwt)), (ar, .inr (5, [.ref ard, .int xso, .int xtr, .int xwi, .int xnu])), (ard, .inl (cI, 16, .inl xdr))]) rfl rfl rfl rfl hl.1 rfl (Nat.le_of_ble_eq_true rfl) dX2_become_2 (fun H locs w => ?_)
  refine fr_put C w fp_X2_24 0 rfl rfl rfl rfl (ws' := [(au, .inr (2, [.ref auh, .ref auw, .int (f_X5_sourcesRead xso), .int xtc])), (auh, .inl (cI, 20, .inl xhd)), (auw, .inl (cI, 4, .inl xwt)), (ar, .inr (5, [.ref ard, .int xso, .int xtr, .int xwi, .int xnu])), (ard, .inl (cI, 16, .inl xdr))]) rfl dX2_become_5 (fun H locs w => ?_)
  refine lv_aload_n hx hb dX2_become_8 rfl (lv_at hl 0 rfl) ?_
  refine lv_aload_n hx hb dX2_become_9 rfl (lv_at hl 1 rfl) ?_
  refine fr_callIV (As := []) (rest := [.ref au]) C w kf_X5_tracersRead mw_10_2 (c_X5_tracersRead l D cI cJ ar ard xso xtr xwi xnu xdr) ⟨Nat.le_of_ble_eq_true rfl, Nat.le_of_ble_eq_true rfl⟩ ⟨Nat.le_refl 0, Nat.le_refl 0⟩ [3, 4] rfl rfl rfl (ws' := [(au, .inr (2, [.ref auh, .ref auw, .int (f_X5_sourcesRead xso), .int xtc])), (auh, .inl (cI, 20, .inl xhd)), (auw, .inl (cI, 4, .inl xwt)), (ar, .inr (5, [.ref ard, .int xso, .int xtr, .int xwi, .int xnu])), (ard, .inl (cI, 16, .inl xdr))]) rfl rfl rfl rfl hl.1 rfl (Nat.le_of_ble_eq_true rfl) dX2_become_10 (fun H locs w => ?_)
  refine fr_put C w fp_X2_31 0 rfl rfl rfl rfl (ws' := [(au, .inr (2, [.ref auh, .ref auw, .int (f_X5_sourcesRead xso), .int (f_X5_tracersRead xtr)])), (auh, .inl (cI, 20, .inl xhd)), (auw, .inl (cI, 4, .inl xwt)), (ar, .inr (5, [.ref ard, .int xso, .int xtr, .int xwi, .int xnu])), (ard, .inl (cI, 16, .inl xdr))]) rfl dX2_become_13 (fun H locs w => ?_)
  refine lv_iconst (v := 0) hx hb dX2_become_16 (by decide) ?_
  refine lv_istore_n (lv' := [(2, .int 0), (0, .ref au), (1, .ref ar)]) hx hb dX2_become_17 rfl hl (by decide) rfl (fun ls hl => ?_)
  obtain ⟨y18, hy18⟩ : ∃ y, y = L_X2_become_18 xdr 5 0 xhd xwt := ⟨_, rfl⟩
  have hr : ((f_X5_sourcesRead xso), (f_X5_tracersRead xtr), y18.2.1, y18.2.2) = r := by rw [hy18]; exact hr
  have X18 : ∀ (H : Heap) (locs : List Loc), Wd D A s.heap H locs [(au, .inr (2, [.ref auh, .ref auw, .int (f_X5_sourcesRead xso), .int (f_X5_tracersRead xtr)])), (auh, .inl (cI, 20, .inl y18.2.1)), (auw, .inl (cI, 4, .inl y18.2.2)), (ar, .inr (5, [.ref ard, .int xso, .int xtr, .int xwi, .int xnu])), (ard, .inl (cI, 16, .inl xdr))] → ∀ (ls : Array Slot), lv_has ls 4 [(0, .ref au), (1, .ref ar), (2, .int y18.1)] → W p l e (rl 1) s m args below meth c H locs 0 0 Q (F0 m 75 ls []) := by
    intro H locs w ls hl
    subst hr hQ
    exact fr_vret C hret hlk w rfl dX2_become_75
  have LP18 : ∀ (n18 : Nat) (k18 : Nat) (i1 : Int32) (w2 : Nat → Int32) (w3 : Nat → Int32), i1 = nI k18 → k18 ≤ 4 → 4 < k18 + n18 → L_X2_become_18 xdr n18 i1 w2 w3 = y18 → ∀ (H : Heap) (locs : List Loc), Wd D A s.heap H locs [(au, .inr (2, [.ref auh, .ref auw, .int (f_X5_sourcesRead xso), .int (f_X5_tracersRead xtr)])), (auh, .inl (cI, 20, .inl w2)), (auw, .inl (cI, 4, .inl w3)), (ar, .inr (5, [.ref ard, .int xso, .int xtr, .int xwi, .int xnu])), (ard, .inl (cI, 16, .inl xdr))] → ∀ (ls : Array Slot), lv_has ls 4 [(0, .ref au), (1, .ref ar), (2, .int i1)] → W p l e (rl 1) s m args below meth c H locs 0 0 Q (F0 m 18 ls []) := by
    clear hr
    intro n18
    induction n18 with
    | zero => intro k18 i1 w2 w3 hk18 hkN18 hn18; exact absurd hn18 (by omega)
    | succ n18 ih18 =>
      intro k18 i1 w2 w3 hk18 hkN18 hn18 hr H locs w ls hl
      have hr : (if 4 ≤ i1 then (i1, w2, w3) else ((fun (y25 : Int32 × (Nat → Int32)) => L_X2_become_18 xdr n18 (i1 + 1) (upd y25.2 (Int32.toNatClampNeg (16 + i1)) 0) (upd w3 (Int32.toNatClampNeg i1) 1)) (L_X2_become_25 xdr i1 5 0 w2))) = y18 := hr
      refine lv_iload_n hx hb dX2_become_18 rfl (lv_at hl 2 rfl) ?_
      refine lv_iconst (v := 4) hx hb dX2_become_19 (by decide) ?_
      refine lv_icmp_ge (tgt := 75) hx hb dX2_become_20 (by decide) (fun c20_4 => ?_) (fun c20_4 => ?_)
      · have hr := (if_pos c20_4).symm.trans hr
        subst hr
        exact X18 H locs w ls (lv_sub hl [0, 1, 2] rfl)
      · have hr := (if_neg c20_4).symm.trans hr
        have hkl18 := kl_of hk18 hkN18 (N := 4) (by decide) (by omega) c20_4
        refine lv_iconst (v := 0) hx hb dX2_become_23 (by decide) ?_
        refine lv_istore_n (lv' := [(3, .int 0), (0, .ref au), (1, .ref ar), (2, .int i1)]) hx hb dX2_become_24 rfl hl (by decide) rfl (fun ls hl => ?_)
        obtain ⟨y25, hy25⟩ : ∃ y, y = L_X2_become_25 xdr i1 5 0 w2 := ⟨_, rfl⟩
        have hr : L_X2_become_18 xdr n18 (i1 + 1) (upd y25.2 (Int32.toNatClampNeg (16 + i1)) 0) (upd w3 (Int32.toNatClampNeg i1) 1) = y18 := by rw [hy25]; exact hr
        have X25 : ∀ (H : Heap) (locs : List Loc), Wd D A s.heap H locs [(au, .inr (2, [.ref auh, .ref auw, .int (f_X5_sourcesRead xso), .int (f_X5_tracersRead xtr)])), (auh, .inl (cI, 20, .inl y25.2)), (auw, .inl (cI, 4, .inl w3)), (ar, .inr (5, [.ref ard, .int xso, .int xtr, .int xwi, .int xnu])), (ard, .inl (cI, 16, .inl xdr))] → ∀ (ls : Array Slot), lv_has ls 4 [(0, .ref au), (1, .ref ar), (2, .int i1), (3, .int y25.1)] → W p l e (rl 1) s m args below meth c H locs 0 0 Q (F0 m 52 ls []) := by
          intro H locs w ls hl
          refine lv_aload_n hx hb dX2_become_52 rfl (lv_at hl 0 rfl) ?_
          refine fr_get C w fg_X2_9 0 rfl rfl dX2_become_53 ?_
          refine lv_bipush (v := 16) hx hb dX2_become_56 (by decide) ?_
          refine lv_iload_n hx hb dX2_become_58 rfl (lv_at hl 2 rfl) ?_
          refine lv_iadd hx hb dX2_become_59 ?_
          refine lv_iconst (v := 0) hx hb dX2_become_60 (by decide) ?_
          refine fr_iast C w 1 rfl (vi_add hk18 (cn := 16) (by decide) (by omega) (by decide)) (ws' := [(au, .inr (2, [.ref auh, .ref auw, .int (f_X5_sourcesRead xso), .int (f_X5_tracersRead xtr)])), (auh, .inl (cI, 20, .inl (upd y25.2 (Int32.toNatClampNeg (16 + i1)) 0))), (auw, .inl (cI, 4, .inl w3)), (ar, .inr (5, [.ref ard, .int xso, .int xtr, .int xwi, .int xnu])), (ard, .inl (cI, 16, .inl xdr))]) rfl dX2_become_61 (fun H locs w => ?_)
          refine lv_aload_n hx hb dX2_become_62 rfl (lv_at hl 0 rfl) ?_
          refine fr_get C w fg_X2_15 0 rfl rfl dX2_become_63 ?_
          refine lv_iload_n hx hb dX2_become_66 rfl (lv_at hl 2 rfl) ?_
          refine lv_iconst (v := 1) hx hb dX2_become_67 (by decide) ?_
          refine fr_iast C w 2 rfl (vi_ctr hk18 hkl18 (by decide) (by decide)) (ws' := [(au, .inr (2, [.ref auh, .ref auw, .int (f_X5_sourcesRead xso), .int (f_X5_tracersRead xtr)])), (auh, .inl (cI, 20, .inl (upd y25.2 (Int32.toNatClampNeg (16 + i1)) 0))), (auw, .inl (cI, 4, .inl (upd w3 (Int32.toNatClampNeg i1) 1))), (ar, .inr (5, [.ref ard, .int xso, .int xtr, .int xwi, .int xnu])), (ard, .inl (cI, 16, .inl xdr))]) rfl dX2_become_68 (fun H locs w => ?_)
          refine lv_iinc (v := i1 + 1) (lv' := [(2, .int (i1 + 1)), (0, .ref au), (1, .ref ar), (3, .int y25.1)]) hx hb dX2_become_69 hl (k := 2) rfl rfl (by decide) rfl (fun ls hl => ?_)
          refine lv_goto (tgt := 18) hx hb dX2_become_72 (by decide) ?_
          exact ih18 (k18 + 1) (i1 + 1) (upd y25.2 (Int32.toNatClampNeg (16 + i1)) 0) (upd w3 (Int32.toNatClampNeg i1) 1) (by rw [hk18]; exact nI_1 k18) (by omega) (by omega) hr H locs w ls (lv_sub hl [1, 2, 0] rfl)
        have LP25 : ∀ (n25 : Nat) (k25 : Nat) (i5 : Int32) (w6 : Nat → Int32), i5 = nI k25 → k25 ≤ 4 → 4 < k25 + n25 → L_X2_become_25 xdr i1 n25 i5 w6 = y25 → ∀ (H : Heap) (locs : List Loc), Wd D A s.heap H locs [(au, .inr (2, [.ref auh, .ref auw, .int (f_X5_sourcesRead xso), .int (f_X5_tracersRead xtr)])), (auh, .inl (cI, 20, .inl w6)), (auw, .inl (cI, 4, .inl w3)), (ar, .inr (5, [.ref ard, .int xso, .int xtr, .int xwi, .int xnu])), (ard, .inl (cI, 16, .inl xdr))] → ∀ (ls : Array Slot), lv_has ls 4 [(0, .ref au), (1, .ref ar), (2, .int i1), (3, .int i5)] → W p l e (rl 1) s m args below meth c H locs 0 0 Q (F0 m 25 ls []) := by
          clear hr
          intro n25
          induction n25 with
          | zero => intro k25 i5 w6 hk25 hkN25 hn25; exact absurd hn25 (by omega)
          | succ n25 ih25 =>
            intro k25 i5 w6 hk25 hkN25 hn25 hr H locs w ls hl
            have hr : (if 4 ≤ i5 then (i5, w6) else L_X2_become_25 xdr i1 n25 (i5 + 1) (upd w6 (Int32.toNatClampNeg ((i5 * 4) + i1)) (f_X5_draftOf xdr i5 i1))) = y25 := hr
            refine lv_iload_n hx hb dX2_become_25 rfl (lv_at hl 3 rfl) ?_
            refine lv_iconst (v := 4) hx hb dX2_become_26 (by decide) ?_
            refine lv_icmp_ge (tgt := 52) hx hb dX2_become_27 (by decide) (fun c27_7 => ?_) (fun c27_7 => ?_)
            · have hr := (if_pos c27_7).symm.trans hr
              subst hr
              exact X25 H locs w ls (lv_sub hl [0, 1, 2, 3] rfl)
            · have hr := (if_neg c27_7).symm.trans hr
              have hkl25 := kl_of hk25 hkN25 (N := 4) (by decide) (by omega) c27_7
              refine lv_aload_n hx hb dX2_become_30 rfl (lv_at hl 0 rfl) ?_
              refine fr_get C w fg_X2_9 0 rfl rfl dX2_become_31 ?_
              refine lv_iload_n hx hb dX2_become_34 rfl (lv_at hl 3 rfl) ?_
              refine lv_iconst (v := 4) hx hb dX2_become_35 (by decide) ?_
              refine lv_imul hx hb dX2_become_36 ?_
              refine lv_iload_n hx hb dX2_become_37 rfl (lv_at hl 2 rfl) ?_
              refine lv_iadd hx hb dX2_become_38 ?_
              refine lv_aload_n hx hb dX2_become_39 rfl (lv_at hl 1 rfl) ?_
              refine lv_iload_n hx hb dX2_become_40 rfl (lv_at hl 3 rfl) ?_
              refine lv_iload_n hx hb dX2_become_41 rfl (lv_at hl 2 rfl) ?_
              refine fr_callIV (As := [.int i5, .int i1]) (rest := [.int ((i5 * 4) + i1), .ref auh]) C w kf_X5_draftOf mw_10_6 (c_X5_draftOf l D cI cJ ar ard xso xtr xwi xnu xdr i5 i1) ⟨Nat.le_of_ble_eq_true rfl, Nat.le_of_ble_eq_true rfl⟩ ⟨Nat.le_refl 0, Nat.le_refl 0⟩ [3, 4] rfl rfl rfl (ws' := [(au, .inr (2, [.ref auh, .ref auw, .int (f_X5_sourcesRead xso), .int (f_X5_tracersRead xtr)])), (auh, .inl (cI, 20, .inl w6)), (auw, .inl (cI, 4, .inl w3)), (ar, .inr (5, [.ref ard, .int xso, .int xtr, .int xwi, .int xnu])), (ard, .inl (cI, 16, .inl xdr))]) rfl rfl rfl rfl hl.1 rfl (Nat.le_of_ble_eq_true rfl) dX2_become_42 (fun H locs w => ?_)
              refine fr_iast C w 1 rfl (vi_lin hk25 hk18 (cn := 4) (by decide) (by omega) (by decide)) (ws' := [(au, .inr (2, [.ref auh, .ref auw, .int (f_X5_sourcesRead xso), .int (f_X5_tracersRead xtr)])), (auh, .inl (cI, 20, .inl (upd w6 (Int32.toNatClampNeg ((i5 * 4) + i1)) (f_X5_draftOf xdr i5 i1)))), (auw, .inl (cI, 4, .inl w3)), (ar, .inr (5, [.ref ard, .int xso, .int xtr, .int xwi, .int xnu])), (ard, .inl (cI, 16, .inl xdr))]) rfl dX2_become_45 (fun H locs w => ?_)
              refine lv_iinc (v := i5 + 1) (lv' := [(3, .int (i5 + 1)), (0, .ref au), (1, .ref ar), (2, .int i1)]) hx hb dX2_become_46 hl (k := 3) rfl rfl (by decide) rfl (fun ls hl => ?_)
              refine lv_goto (tgt := 25) hx hb dX2_become_49 (by decide) ?_
              exact ih25 (k25 + 1) (i5 + 1) (upd w6 (Int32.toNatClampNeg ((i5 * 4) + i1)) (f_X5_draftOf xdr i5 i1)) (by rw [hk25]; exact nI_1 k25) (by omega) (by omega) hr H locs w ls (lv_sub hl [1, 2, 3, 0] rfl)
        exact LP25 5 0 0 w2 (by decide) (by omega) (by omega) hy25.symm H locs w ls (lv_sub hl [1, 2, 3, 0] rfl)
  exact LP18 5 0 0 xhd xwt (by decide) (by omega) (by omega) hy18.symm H locs w ls (lv_sub hl [1, 2, 0] rfl)
end
section
theorem mw_20_13 : Cond.methodLink RX1 18 Lib.MathLoose.abs_long.x ∈ wsL_law := ck_20 _ (List.mem_of_getElem? (i := 13) rfl)
theorem mw_20_14 : Cond.static Lib.MathLoose.abs_long.x ∈ wsL_law := ck_20 _ (List.mem_of_getElem? (i := 14) rfl)
theorem mw_20_15 : Cond.initialized "java/lang/Math" ∈ wsL_law := ck_20 _ (List.mem_of_getElem? (i := 15) rfl)
theorem mw_20_16 : Cond.code Lib.MathLoose.abs_long.x Lib.MathLoose.abs_long.code 2 (some .long) ∈ wsL_law := ck_20 _ (List.mem_of_getElem? (i := 16) rfl)
theorem mw_20_17 : Cond.methodLink RX1 24 yX1_commonDivisor ∈ wsL_law := ck_20 _ (List.mem_of_getElem? (i := 17) rfl)
theorem mw_20_19 : Cond.code yX1_commonDivisor cX1_commonDivisor 11 (some .long) ∈ wsL_law := ck_20 _ (List.mem_of_getElem? (i := 19) rfl)
theorem mw_2_6 : Cond.initialized RX1 ∈ wsL_law := ck_2 _ (List.mem_of_getElem? (i := 6) rfl)
theorem mw_20_18 : Cond.static yX1_commonDivisor ∈ wsL_law := ck_20 _ (List.mem_of_getElem? (i := 18) rfl)
theorem mw_4_4 : Cond.fieldLink RX1 9 "MudShares$Fraction" "above" "J" ∈ wsL_law := ck_4 _ (List.mem_of_getElem? (i := 4) rfl)
theorem mw_4_5 : Cond.fieldLink RX1 15 "MudShares$Fraction" "below" "J" ∈ wsL_law := ck_4 _ (List.mem_of_getElem? (i := 5) rfl)
theorem mw_21_13 : Cond.methodLink RX1 28 yJ13_compare_74951 ∈ wsL_law := ck_21 _ (List.mem_of_getElem? (i := 13) rfl)
theorem mw_21_16 : Cond.code yJ13_compare_74951 cJ13_compare_74951 4 (some .int) ∈ wsL_law := ck_21 _ (List.mem_of_getElem? (i := 16) rfl)
theorem mw_21_15 : Cond.initialized RJ13 ∈ wsL_law := ck_21 _ (List.mem_of_getElem? (i := 15) rfl)
theorem mw_21_14 : Cond.static yJ13_compare_74951 ∈ wsL_law := ck_21 _ (List.mem_of_getElem? (i := 14) rfl)
theorem fp_X1_9 : FP RX1 9 1 0 .long := ⟨RX1, TX1, 2, tyX1, rfl, by decide, inlX1, mw_4_4, tyX1_ok, nmX1, rfl, by decide +kernel⟩
theorem fp_X1_15 : FP RX1 15 1 1 .long := ⟨RX1, TX1, 2, tyX1, rfl, by decide, inlX1, mw_4_5, tyX1_ok, nmX1, rfl, by decide +kernel⟩
theorem fg_X1_9 : FG RX1 9 1 0 := ⟨RX1, TX1, 2, rfl, by decide, inlX1, mw_4_4⟩
theorem fg_X1_15 : FG RX1 15 1 1 := ⟨RX1, TX1, 2, rfl, by decide, inlX1, mw_4_5⟩
theorem kf_X1_commonDivisor : KS yX1_commonDivisor cX1_commonDivisor 11 (some .long) 2 := ⟨mw_20_19, mw_20_18, mw_2_6, by decide, by decide, by decide +kernel⟩
theorem kf_J13_compare_74951 : KS yJ13_compare_74951 cJ13_compare_74951 4 (some .int) 2 := ⟨mw_21_16, mw_21_14, mw_21_15, by decide, by decide, by decide +kernel⟩
def f_X1_put (q1 : Int64) (q2 : Int64) : Int64 × Int64 := (if q2 ≤ 0 then (0, 1) else (if 0 < (f_X1_commonDivisor (if 0 < q1 then q1 else -q1) q2) then (q1 / (f_X1_commonDivisor (if 0 < q1 then q1 else -q1) q2), q2 / (f_X1_commonDivisor (if 0 < q1 then q1 else -q1) q2)) else (0, 1)))
set_option maxRecDepth 100000 in
set_option maxHeartbeats 4000000 in
theorem c_X1_put (l : Launch) (D : va_G) (cI cJ : ClassId) (ag : Nat) (ga : Int64) (gb : Int64) (q1 : Int64) (q2 : Int64) : CV l yX1_put cX1_put 7 1 D cI cJ [.ref ag, .long q1, .long q2] [(ag, .inr (1, [.long ga, .long gb]))] [(ag, .inr (1, [.long ((f_X1_put q1 q2).1), .long ((f_X1_put q1 q2).2)]))] := by
  generalize hr : f_X1_put q1 q2 = r
  refine fr_entryV (by decide) rfl ?_
  intro p e s m args below meth c A Q H locs hQ C hret hlk w ls hl
  have hx := C.1
  have hb := C.2.1
  have hl : lv_has ls 7 [(0, .ref ag), (1, .long q1), (3, .long q2)] := hl
  have hr : (if q2 ≤ 0 then (0, 1) else (if 0 < (f_X1_commonDivisor (if 0 < q1 then q1 else -q1) q2) then (q1 / (f_X1_commonDivisor (if 0 < q1 then q1 else -q1) q2), q2 / (f_X1_commonDivisor (if 0 < q1 then q1 else -q1) q2)) else (0, 1))) = r := hr
  refine lv_lload_n hx hb dX1_put_0 rfl (lv_at hl 1 rfl) ?_
  refine va_mabs_long hx hb (C.2.2.1.trans hl.1.symm) C.2.2.2.1 (C.2.2.2.2.1 _ mw_20_13) (C.2.2.2.2.1 _ mw_20_14) (C.2.2.2.2.1 _ mw_20_15) (C.2.2.2.2.1 _ mw_20_16) (Nat.le_of_ble_eq_true rfl) (Nat.le_of_ble_eq_true rfl) (Nat.zero_le _) (Nat.zero_le _) dX1_put_1 ?_
  refine lv_lload_n hx hb dX1_put_4 rfl (lv_at hl 2 rfl) ?_
  refine fr_callLS (As := [.long (if 0 < q1 then q1 else -q1), .long q2]) (rest := []) C w kf_X1_commonDivisor mw_20_17 (c_X1_commonDivisor l D cI cJ (if 0 < q1 then q1 else -q1) q2) ⟨Nat.le_of_ble_eq_true rfl, Nat.le_of_ble_eq_true rfl⟩ ⟨Nat.le_refl 0, Nat.le_refl 0⟩ [] rfl rfl rfl (ws' := [(ag, .inr (1, [.long ga, .long gb]))]) rfl rfl hl.1 rfl (Nat.le_of_ble_eq_true rfl) dX1_put_5 (fun H locs w => ?_)
  refine lv_lstore (lv' := [(5, .long (f_X1_commonDivisor (if 0 < q1 then q1 else -q1) q2)), (0, .ref ag), (1, .long q1), (3, .long q2)]) hx hb dX1_put_8 hl (by decide) rfl (fun ls hl => ?_)
  refine lv_lload_n hx hb dX1_put_10 rfl (lv_at hl 3 rfl) ?_
  refine lv_lconst (v := 0) hx hb dX1_put_11 (by decide) ?_
  refine fr_lle (tgt := 23) hx hb dX1_put_12 dX1_put_13 (by decide) (fun c13_1 => ?_) (fun c13_1 => ?_)
  · have hr := (if_pos c13_1).symm.trans hr
    refine lv_aload_n hx hb dX1_put_23 rfl (lv_at hl 1 rfl) ?_
    refine lv_lconst (v := 0) hx hb dX1_put_24 (by decide) ?_
    refine fr_put C w fp_X1_9 0 rfl rfl rfl rfl (ws' := [(ag, .inr (1, [.long 0, .long gb]))]) rfl dX1_put_25 (fun H locs w => ?_)
    refine lv_aload_n hx hb dX1_put_28 rfl (lv_at hl 1 rfl) ?_
    refine lv_lconst (v := 1) hx hb dX1_put_29 (by decide) ?_
    refine fr_put C w fp_X1_15 0 rfl rfl rfl rfl (ws' := [(ag, .inr (1, [.long 0, .long 1]))]) rfl dX1_put_30 (fun H locs w => ?_)
    subst hr hQ
    exact fr_vret C hret hlk w rfl dX1_put_33
  · have hr := (if_neg c13_1).symm.trans hr
    refine lv_lload hx hb dX1_put_16 (lv_at hl 0 rfl) ?_
    refine lv_lconst (v := 0) hx hb dX1_put_18 (by decide) ?_
    refine fr_lgt (tgt := 34) hx hb dX1_put_19 dX1_put_20 (by decide) (fun c20_2 => ?_) (fun c20_2 => ?_)
    · have hr := (if_pos c20_2).symm.trans hr
      refine lv_aload_n hx hb dX1_put_34 rfl (lv_at hl 1 rfl) ?_
      refine lv_lload_n hx hb dX1_put_35 rfl (lv_at hl 2 rfl) ?_
      refine lv_lload hx hb dX1_put_36 (lv_at hl 0 rfl) ?_
      refine lv_ldiv hx hb dX1_put_38 (ne0_lpos (by assumption)) ?_
      refine fr_put C w fp_X1_9 0 rfl rfl rfl rfl (ws' := [(ag, .inr (1, [.long (q1 / (f_X1_commonDivisor (if 0 < q1 then q1 else -q1) q2)), .long gb]))]) rfl dX1_put_39 (fun H locs w => ?_)
      refine lv_aload_n hx hb dX1_put_42 rfl (lv_at hl 1 rfl) ?_
      refine lv_lload_n hx hb dX1_put_43 rfl (lv_at hl 3 rfl) ?_
      refine lv_lload hx hb dX1_put_44 (lv_at hl 0 rfl) ?_
      refine lv_ldiv hx hb dX1_put_46 (ne0_lpos (by assumption)) ?_
      refine fr_put C w fp_X1_15 0 rfl rfl rfl rfl (ws' := [(ag, .inr (1, [.long (q1 / (f_X1_commonDivisor (if 0 < q1 then q1 else -q1) q2)), .long (q2 / (f_X1_commonDivisor (if 0 < q1 then q1 else -q1) q2))]))]) rfl dX1_put_47 (fun H locs w => ?_)
      subst hr hQ
      exact fr_vret C hret hlk w rfl dX1_put_50
    · have hr := (if_neg c20_2).symm.trans hr
      refine lv_aload_n hx hb dX1_put_23 rfl (lv_at hl 1 rfl) ?_
      refine lv_lconst (v := 0) hx hb dX1_put_24 (by decide) ?_
      refine fr_put C w fp_X1_9 0 rfl rfl rfl rfl (ws' := [(ag, .inr (1, [.long 0, .long gb]))]) rfl dX1_put_25 (fun H locs w => ?_)
      refine lv_aload_n hx hb dX1_put_28 rfl (lv_at hl 1 rfl) ?_
      refine lv_lconst (v := 1) hx hb dX1_put_29 (by decide) ?_
      refine fr_put C w fp_X1_15 0 rfl rfl rfl rfl (ws' := [(ag, .inr (1, [.long 0, .long 1]))]) rfl dX1_put_30 (fun H locs w => ?_)
      subst hr hQ
      exact fr_vret C hret hlk w rfl dX1_put_33
def f_X1_copy (gc : Int64) (gd : Int64) : Int64 × Int64 := (gc, gd)
set_option maxRecDepth 100000 in
set_option maxHeartbeats 4000000 in
theorem c_X1_copy (l : Launch) (D : va_G) (cI cJ : ClassId) (ag ag2 : Nat) (ga : Int64) (gb : Int64) (gc : Int64) (gd : Int64)  : CV l yX1_copy cX1_copy 2 0 D cI cJ [.ref ag, .ref ag2] [(ag, .inr (1, [.long ga, .long gb])), (ag2, .inr (1, [.long gc, .long gd]))] [(ag, .inr (1, [.long ((f_X1_copy gc gd).1), .long ((f_X1_copy gc gd).2)])), (ag2, .inr (1, [.long gc, .long gd]))] := by
  generalize hr : f_X1_copy gc gd = r
  refine fr_entryV (by decide) rfl ?_
  intro p e s m args below meth c A Q H locs hQ C hret hlk w ls hl
  have hx := C.1
  have hb := C.2.1
  have hl : lv_has ls 2 [(0, .ref ag), (1, .ref ag2)] := hl
  have hr : (gc, gd) = r := hr
  refine lv_aload_n hx hb dX1_copy_0 rfl (lv_at hl 0 rfl) ?_
  refine lv_aload_n hx hb dX1_copy_1 rfl (lv_at hl 1 rfl) ?_
  refine fr_get C w fg_X1_9 1 rfl rfl dX1_copy_2 ?_
  refine fr_put C w fp_X1_9 0 rfl rfl rfl rfl (ws' := [(ag, .inr (1, [.long gc, .long gb])), (ag2, .inr (1, [.long gc, .long gd]))]) rfl dX1_copy_5 (fun H locs w => ?_)
  refine lv_aload_n hx hb dX1_copy_8 rfl (lv_at hl 0 rfl) ?_
  refine lv_aload_n hx hb dX1_copy_9 rfl (lv_at hl 1 rfl) ?_
  refine fr_get C w fg_X1_15 1 rfl rfl dX1_copy_10 ?_
  refine fr_put C w fp_X1_15 0 rfl rfl rfl rfl (ws' := [(ag, .inr (1, [.long gc, .long gd])), (ag2, .inr (1, [.long gc, .long gd]))]) rfl dX1_copy_13 (fun H locs w => ?_)
  subst hr hQ
  exact fr_vret C hret hlk w rfl dX1_copy_16
def f_X1_part (ga : Int64) (gb : Int64) (q1 : Int32) : Int64 := (if q1 = 0 then ga else gb)
set_option maxRecDepth 100000 in
set_option maxHeartbeats 4000000 in
theorem c_X1_part (l : Launch) (D : va_G) (cI cJ : ClassId) (ag : Nat) (ga : Int64) (gb : Int64) (q1 : Int32) : CL l yX1_part cX1_part 2 0 D cI cJ [.ref ag, .int q1] [(ag, .inr (1, [.long ga, .long gb]))] [(ag, .inr (1, [.long ga, .long gb]))] (f_X1_part ga gb q1) := by
  generalize hr : f_X1_part ga gb q1 = r
  refine fr_entryL (by decide) rfl ?_
  intro p e s m args below meth c A Q H locs hQ C hret hlk w ls hl
  have hx := C.1
  have hb := C.2.1
  have hl : lv_has ls 2 [(0, .ref ag), (1, .int q1)] := hl
  have hr : (if q1 = 0 then ga else gb) = r := hr
  refine lv_iload_n hx hb dX1_part_0 rfl (lv_at hl 1 rfl) ?_
  refine lv_if_ne (tgt := 11) hx hb dX1_part_1 (by decide) (fun c1_1 => ?_) (fun c1_1 => ?_)
  · have hr := (if_neg c1_1).symm.trans hr
    refine lv_aload_n hx hb dX1_part_11 rfl (lv_at hl 0 rfl) ?_
    refine fr_get C w fg_X1_15 0 rfl rfl dX1_part_12 ?_
    subst hr hQ
    exact fr_lret C hret hlk w rfl rfl dX1_part_15
  · have hr := (if_pos c1_1).symm.trans hr
    refine lv_aload_n hx hb dX1_part_4 rfl (lv_at hl 0 rfl) ?_
    refine fr_get C w fg_X1_9 0 rfl rfl dX1_part_5 ?_
    refine lv_goto (tgt := 15) hx hb dX1_part_8 (by decide) ?_
    subst hr hQ
    exact fr_lret C hret hlk w rfl rfl dX1_part_15
def L_X1_against_29  : Nat → Int64 → Int64 → Int64 → Int64 → Int32 → Int32 → Int32
  | 0, _, _, _, _, _, _ => 0
  | n29 + 1, i1, i2, i3, i4, i5, i6 => (if 200 ≤ i6 then 0 else (if i2 ≤ 0 then 0 else (if i4 ≤ 0 then 0 else (if (f_J13_compare_74951 (i1 / i2) (i3 / i4)) = 0 then (if (i1 - i1 / i2 * i2) = 0 then i5 * (f_J13_compare_74951 (i1 - i1 / i2 * i2) (i3 - i3 / i4 * i4)) else (if (i3 - i3 / i4 * i4) = 0 then i5 * (f_J13_compare_74951 (i1 - i1 / i2 * i2) (i3 - i3 / i4 * i4)) else L_X1_against_29  n29 i2 (i1 - i1 / i2 * i2) i4 (i3 - i3 / i4 * i4) (-i5) (i6 + 1))) else i5 * (f_J13_compare_74951 (i1 / i2) (i3 / i4))))))
def f_X1_against (ga : Int64) (gb : Int64) (gc : Int64) (gd : Int64) : Int32 := L_X1_against_29 201 ga gb gc gd 1 0
set_option maxRecDepth 100000 in
set_option maxHeartbeats 4000000 in
theorem c_X1_against (l : Launch) (D : va_G) (cI cJ : ClassId) (ag ag2 : Nat) (ga : Int64) (gb : Int64) (gc : Int64) (gd : Int64)  : CI l yX1_against cX1_against 17 .int 1 D cI cJ [.ref ag, .ref ag2] [(ag, .inr (1, [.long ga, .long gb])), (ag2, .inr (1, [.long gc, .long gd]))] [(ag, .inr (1, [.long ga, .long gb])), (ag2, .inr (1, [.long gc, .long gd]))] (f_X1_against ga gb gc gd) := by
  generalize hr : f_X1_against ga gb gc gd = r
  refine fr_entryI (by decide) rfl ?_
  intro p e s m args below meth c A Q H locs hQ C hret hlk w ls hl
  have hx := C.1
  have hb := C.2.1
  have hl : lv_has ls 17 [(0, .ref ag), (1, .ref ag2)] := hl
  have hr : L_X1_against_29 201 ga gb gc gd 1 0 = r := hr
  refine lv_aload_n hx hb dX1_against_0 rfl (lv_at hl 0 rfl) ?_
  refine fr_get C w fg_X1_9 0 rfl rfl dX1_against_1 ?_
  refine lv_lstore_n (lv' := [(2, .long ga), (0, .ref ag), (1, .ref ag2)]) hx hb dX1_against_4 rfl hl (by decide) rfl (fun ls hl => ?_)
  refine lv_aload_n hx hb dX1_against_5 rfl (lv_at hl 1 rfl) ?_
  refine fr_get C w fg_X1_15 0 rfl rfl dX1_against_6 ?_
  refine lv_lstore (lv' := [(4, .long gb), (2, .long ga), (0, .ref ag), (1, .ref ag2)]) hx hb dX1_against_9 hl (by decide) rfl (fun ls hl => ?_)
  refine lv_aload_n hx hb dX1_against_11 rfl (lv_at hl 3 rfl) ?_
  refine fr_get C w fg_X1_9 1 rfl rfl dX1_against_12 ?_
  refine lv_lstore (lv' := [(6, .long gc), (4, .long gb), (2, .long ga), (0, .ref ag), (1, .ref ag2)]) hx hb dX1_against_15 hl (by decide) rfl (fun ls hl => ?_)
  refine lv_aload_n hx hb dX1_against_17 rfl (lv_at hl 4 rfl) ?_
  refine fr_get C w fg_X1_15 1 rfl rfl dX1_against_18 ?_
  refine lv_lstore (lv' := [(8, .long gd), (6, .long gc), (4, .long gb), (2, .long ga), (0, .ref ag), (1, .ref ag2)]) hx hb dX1_against_21 hl (by decide) rfl (fun ls hl => ?_)
  refine lv_iconst (v := 1) hx hb dX1_against_23 (by decide) ?_
  refine lv_istore (lv' := [(10, .int 1), (8, .long gd), (6, .long gc), (4, .long gb), (2, .long ga), (0, .ref ag), (1, .ref ag2)]) hx hb dX1_against_24 hl (by decide) rfl (fun ls hl => ?_)
  refine lv_iconst (v := 0) hx hb dX1_against_26 (by decide) ?_
  refine lv_istore (lv' := [(11, .int 0), (10, .int 1), (8, .long gd), (6, .long gc), (4, .long gb), (2, .long ga), (0, .ref ag), (1, .ref ag2)]) hx hb dX1_against_27 hl (by decide) rfl (fun ls hl => ?_)
  have LP29 : ∀ (n29 : Nat) (k29 : Nat) (i1 : Int64) (i2 : Int64) (i3 : Int64) (i4 : Int64) (i5 : Int32) (i6 : Int32), i6 = nI k29 → k29 ≤ 200 → 200 < k29 + n29 → L_X1_against_29 n29 i1 i2 i3 i4 i5 i6 = r → ∀ (H : Heap) (locs : List Loc), Wd D A s.heap H locs [(ag, .inr (1, [.long ga, .long gb])), (ag2, .inr (1, [.long gc, .long gd]))] → ∀ (ls : Array Slot), lv_has ls 17 [(0, .ref ag), (1, .ref ag2), (2, .long i1), (4, .long i2), (6, .long i3), (8, .long i4), (10, .int i5), (11, .int i6)] → W p l e (rl 1) s m args below meth c H locs 0 0 Q (F0 m 29 ls []) := by
    skip
    intro n29
    induction n29 with
    | zero => intro k29 i1 i2 i3 i4 i5 i6 hk29 hkN29 hn29; exact absurd hn29 (by omega)
    | succ n29 ih29 =>
      intro k29 i1 i2 i3 i4 i5 i6 hk29 hkN29 hn29 hr H locs w ls hl
      have hr : (if 200 ≤ i6 then 0 else (if i2 ≤ 0 then 0 else (if i4 ≤ 0 then 0 else (if (f_J13_compare_74951 (i1 / i2) (i3 / i4)) = 0 then (if (i1 - i1 / i2 * i2) = 0 then i5 * (f_J13_compare_74951 (i1 - i1 / i2 * i2) (i3 - i3 / i4 * i4)) else (if (i3 - i3 / i4 * i4) = 0 then i5 * (f_J13_compare_74951 (i1 - i1 / i2 * i2) (i3 - i3 / i4 * i4)) else L_X1_against_29  n29 i2 (i1 - i1 / i2 * i2) i4 (i3 - i3 / i4 * i4) (-i5) (i6 + 1))) else i5 * (f_J13_compare_74951 (i1 / i2) (i3 / i4)))))) = r := hr
      refine lv_iload hx hb dX1_against_29 (lv_at hl 7 rfl) ?_
      refine lv_sipush (v := 200) hx hb dX1_against_31 (by decide) ?_
      refine lv_icmp_ge (tgt := 140) hx hb dX1_against_34 (by decide) (fun c34_7 => ?_) (fun c34_7 => ?_)
      · have hr := (if_pos c34_7).symm.trans hr
        refine lv_iconst (v := 0) hx hb dX1_against_140 (by decide) ?_
        subst hr hQ
        exact fr_iret (W0 := []) C hret hlk w rfl rfl rfl dX1_against_141
      · have hr := (if_neg c34_7).symm.trans hr
        have hkl29 := kl_of hk29 hkN29 (N := 200) (by decide) (by omega) c34_7
        refine lv_lload hx hb dX1_against_37 (lv_at hl 3 rfl) ?_
        refine lv_lconst (v := 0) hx hb dX1_against_39 (by decide) ?_
        refine fr_lle (tgt := 140) hx hb dX1_against_40 dX1_against_41 (by decide) (fun c41_8 => ?_) (fun c41_8 => ?_)
        · have hr := (if_pos c41_8).symm.trans hr
          refine lv_iconst (v := 0) hx hb dX1_against_140 (by decide) ?_
          subst hr hQ
          exact fr_iret (W0 := []) C hret hlk w rfl rfl rfl dX1_against_141
        · have hr := (if_neg c41_8).symm.trans hr
          refine lv_lload hx hb dX1_against_44 (lv_at hl 5 rfl) ?_
          refine lv_lconst (v := 0) hx hb dX1_against_46 (by decide) ?_
          refine fr_lle (tgt := 140) hx hb dX1_against_47 dX1_against_48 (by decide) (fun c48_9 => ?_) (fun c48_9 => ?_)
          · have hr := (if_pos c48_9).symm.trans hr
            refine lv_iconst (v := 0) hx hb dX1_against_140 (by decide) ?_
            subst hr hQ
            exact fr_iret (W0 := []) C hret hlk w rfl rfl rfl dX1_against_141
          · have hr := (if_neg c48_9).symm.trans hr
            refine lv_lload_n hx hb dX1_against_51 rfl (lv_at hl 2 rfl) ?_
            refine lv_lload hx hb dX1_against_52 (lv_at hl 3 rfl) ?_
            refine lv_ldiv hx hb dX1_against_54 (ne0_lgt (by assumption)) ?_
            refine lv_lload hx hb dX1_against_55 (lv_at hl 4 rfl) ?_
            refine lv_lload hx hb dX1_against_57 (lv_at hl 5 rfl) ?_
            refine lv_ldiv hx hb dX1_against_59 (ne0_lgt (by assumption)) ?_
            refine fr_callIS (As := [.long (i1 / i2), .long (i3 / i4)]) (rest := []) C w kf_J13_compare_74951 mw_21_13 (c_J13_compare_74951 l D cI cJ (i1 / i2) (i3 / i4)) ⟨Nat.le_of_ble_eq_true rfl, Nat.le_of_ble_eq_true rfl⟩ ⟨Nat.le_refl 0, Nat.le_refl 0⟩ [] rfl rfl rfl (ws' := [(ag, .inr (1, [.long ga, .long gb])), (ag2, .inr (1, [.long gc, .long gd]))]) rfl rfl hl.1 rfl (Nat.le_of_ble_eq_true rfl) dX1_against_60 (fun H locs w => ?_)
            refine lv_istore (lv' := [(12, .int (f_J13_compare_74951 (i1 / i2) (i3 / i4))), (0, .ref ag), (1, .ref ag2), (2, .long i1), (4, .long i2), (6, .long i3), (8, .long i4), (10, .int i5), (11, .int i6)]) hx hb dX1_against_63 hl (by decide) rfl (fun ls hl => ?_)
            refine lv_lload_n hx hb dX1_against_65 rfl (lv_at hl 3 rfl) ?_
            refine lv_lload hx hb dX1_against_66 (lv_at hl 4 rfl) ?_
            refine lv_lrem hx hb dX1_against_68 (ne0_lgt (by assumption)) ?_
            refine lv_lstore (lv' := [(13, .long (i1 - i1 / i2 * i2)), (12, .int (f_J13_compare_74951 (i1 / i2) (i3 / i4))), (0, .ref ag), (1, .ref ag2), (2, .long i1), (4, .long i2), (6, .long i3), (8, .long i4), (10, .int i5), (11, .int i6)]) hx hb dX1_against_69 hl (by decide) rfl (fun ls hl => ?_)
            refine lv_lload hx hb dX1_against_71 (lv_at hl 6 rfl) ?_
            refine lv_lload hx hb dX1_against_73 (lv_at hl 7 rfl) ?_
            refine lv_lrem hx hb dX1_against_75 (ne0_lgt (by assumption)) ?_
            refine lv_lstore (lv' := [(15, .long (i3 - i3 / i4 * i4)), (13, .long (i1 - i1 / i2 * i2)), (12, .int (f_J13_compare_74951 (i1 / i2) (i3 / i4))), (0, .ref ag), (1, .ref ag2), (2, .long i1), (4, .long i2), (6, .long i3), (8, .long i4), (10, .int i5), (11, .int i6)]) hx hb dX1_against_76 hl (by decide) rfl (fun ls hl => ?_)
            refine lv_iload hx hb dX1_against_78 (lv_at hl 2 rfl) ?_
            refine lv_if_eq (tgt := 89) hx hb dX1_against_80 (by decide) (fun c80_10 => ?_) (fun c80_10 => ?_)
            · have hr := (if_pos c80_10).symm.trans hr
              refine lv_lload hx hb dX1_against_89 (lv_at hl 1 rfl) ?_
              refine lv_lconst (v := 0) hx hb dX1_against_91 (by decide) ?_
              refine fr_leq (tgt := 103) hx hb dX1_against_92 dX1_against_93 (by decide) (fun c93_11 => ?_) (fun c93_11 => ?_)
              · have hr := (if_pos c93_11).symm.trans hr
                refine lv_iload hx hb dX1_against_103 (lv_at hl 9 rfl) ?_
                refine lv_lload hx hb dX1_against_105 (lv_at hl 1 rfl) ?_
                refine lv_lload hx hb dX1_against_107 (lv_at hl 0 rfl) ?_
                refine fr_callIS (As := [.long (i1 - i1 / i2 * i2), .long (i3 - i3 / i4 * i4)]) (rest := [.int i5]) C w kf_J13_compare_74951 mw_21_13 (c_J13_compare_74951 l D cI cJ (i1 - i1 / i2 * i2) (i3 - i3 / i4 * i4)) ⟨Nat.le_of_ble_eq_true rfl, Nat.le_of_ble_eq_true rfl⟩ ⟨Nat.le_refl 0, Nat.le_refl 0⟩ [] rfl rfl rfl (ws' := [(ag, .inr (1, [.long ga, .long gb])), (ag2, .inr (1, [.long gc, .long gd]))]) rfl rfl hl.1 rfl (Nat.le_of_ble_eq_true rfl) dX1_against_109 (fun H locs w => ?_)
                refine lv_imul hx hb dX1_against_112 ?_
                subst hr hQ
                exact fr_iret (W0 := []) C hret hlk w rfl rfl rfl dX1_against_113
              · have hr := (if_neg c93_11).symm.trans hr
                refine lv_lload hx hb dX1_against_96 (lv_at hl 0 rfl) ?_
                refine lv_lconst (v := 0) hx hb dX1_against_98 (by decide) ?_
                refine fr_lne (tgt := 114) hx hb dX1_against_99 dX1_against_100 (by decide) (fun c100_12 => ?_) (fun c100_12 => ?_)
                · have hr := (if_neg c100_12).symm.trans hr
                  refine lv_lload hx hb dX1_against_114 (lv_at hl 6 rfl) ?_
                  refine lv_lstore_n (lv' := [(2, .long i2), (15, .long (i3 - i3 / i4 * i4)), (13, .long (i1 - i1 / i2 * i2)), (12, .int (f_J13_compare_74951 (i1 / i2) (i3 / i4))), (0, .ref ag), (1, .ref ag2), (4, .long i2), (6, .long i3), (8, .long i4), (10, .int i5), (11, .int i6)]) hx hb dX1_against_116 rfl hl (by decide) rfl (fun ls hl => ?_)
                  refine lv_lload hx hb dX1_against_117 (lv_at hl 2 rfl) ?_
                  refine lv_lstore (lv' := [(4, .long (i1 - i1 / i2 * i2)), (2, .long i2), (15, .long (i3 - i3 / i4 * i4)), (13, .long (i1 - i1 / i2 * i2)), (12, .int (f_J13_compare_74951 (i1 / i2) (i3 / i4))), (0, .ref ag), (1, .ref ag2), (6, .long i3), (8, .long i4), (10, .int i5), (11, .int i6)]) hx hb dX1_against_119 hl (by decide) rfl (fun ls hl => ?_)
                  refine lv_lload hx hb dX1_against_121 (lv_at hl 8 rfl) ?_
                  refine lv_lstore (lv' := [(6, .long i4), (4, .long (i1 - i1 / i2 * i2)), (2, .long i2), (15, .long (i3 - i3 / i4 * i4)), (13, .long (i1 - i1 / i2 * i2)), (12, .int (f_J13_compare_74951 (i1 / i2) (i3 / i4))), (0, .ref ag), (1, .ref ag2), (8, .long i4), (10, .int i5), (11, .int i6)]) hx hb dX1_against_123 hl (by decide) rfl (fun ls hl => ?_)
                  refine lv_lload hx hb dX1_against_125 (lv_at hl 3 rfl) ?_
                  refine lv_lstore (lv' := [(8, .long (i3 - i3 / i4 * i4)), (6, .long i4), (4, .long (i1 - i1 / i2 * i2)), (2, .long i2), (15, .long (i3 - i3 / i4 * i4)), (13, .long (i1 - i1 / i2 * i2)), (12, .int (f_J13_compare_74951 (i1 / i2) (i3 / i4))), (0, .ref ag), (1, .ref ag2), (10, .int i5), (11, .int i6)]) hx hb dX1_against_127 hl (by decide) rfl (fun ls hl => ?_)
                  refine lv_iload hx hb dX1_against_129 (lv_at hl 9 rfl) ?_
                  refine lv_ineg hx hb dX1_against_131 ?_
                  refine lv_istore (lv' := [(10, .int (-i5)), (8, .long (i3 - i3 / i4 * i4)), (6, .long i4), (4, .long (i1 - i1 / i2 * i2)), (2, .long i2), (15, .long (i3 - i3 / i4 * i4)), (13, .long (i1 - i1 / i2 * i2)), (12, .int (f_J13_compare_74951 (i1 / i2) (i3 / i4))), (0, .ref ag), (1, .ref ag2), (11, .int i6)]) hx hb dX1_against_132 hl (by decide) rfl (fun ls hl => ?_)
                  refine lv_iinc (v := i6 + 1) (lv' := [(11, .int (i6 + 1)), (10, .int (-i5)), (8, .long (i3 - i3 / i4 * i4)), (6, .long i4), (4, .long (i1 - i1 / i2 * i2)), (2, .long i2), (15, .long (i3 - i3 / i4 * i4)), (13, .long (i1 - i1 / i2 * i2)), (12, .int (f_J13_compare_74951 (i1 / i2) (i3 / i4))), (0, .ref ag), (1, .ref ag2)]) hx hb dX1_against_134 hl (k := 10) rfl rfl (by decide) rfl (fun ls hl => ?_)
                  refine lv_goto (tgt := 29) hx hb dX1_against_137 (by decide) ?_
                  exact ih29 (k29 + 1) i2 (i1 - i1 / i2 * i2) i4 (i3 - i3 / i4 * i4) (-i5) (i6 + 1) (by rw [hk29]; exact nI_1 k29) (by omega) (by omega) hr H locs w ls (lv_sub hl [9, 10, 5, 4, 3, 2, 1, 0] rfl)
                · have hr := (if_pos c100_12).symm.trans hr
                  refine lv_iload hx hb dX1_against_103 (lv_at hl 9 rfl) ?_
                  refine lv_lload hx hb dX1_against_105 (lv_at hl 1 rfl) ?_
                  refine lv_lload hx hb dX1_against_107 (lv_at hl 0 rfl) ?_
                  refine fr_callIS (As := [.long (i1 - i1 / i2 * i2), .long (i3 - i3 / i4 * i4)]) (rest := [.int i5]) C w kf_J13_compare_74951 mw_21_13 (c_J13_compare_74951 l D cI cJ (i1 - i1 / i2 * i2) (i3 - i3 / i4 * i4)) ⟨Nat.le_of_ble_eq_true rfl, Nat.le_of_ble_eq_true rfl⟩ ⟨Nat.le_refl 0, Nat.le_refl 0⟩ [] rfl rfl rfl (ws' := [(ag, .inr (1, [.long ga, .long gb])), (ag2, .inr (1, [.long gc, .long gd]))]) rfl rfl hl.1 rfl (Nat.le_of_ble_eq_true rfl) dX1_against_109 (fun H locs w => ?_)
                  refine lv_imul hx hb dX1_against_112 ?_
                  subst hr hQ
                  exact fr_iret (W0 := []) C hret hlk w rfl rfl rfl dX1_against_113
            · have hr := (if_neg c80_10).symm.trans hr
              refine lv_iload hx hb dX1_against_83 (lv_at hl 9 rfl) ?_
              refine lv_iload hx hb dX1_against_85 (lv_at hl 2 rfl) ?_
              refine lv_imul hx hb dX1_against_87 ?_
              subst hr hQ
              exact fr_iret (W0 := []) C hret hlk w rfl rfl rfl dX1_against_88
  exact LP29 201 0 ga gb gc gd 1 0 (by decide) (by omega) (by omega) hr H locs w ls (lv_sub hl [6, 7, 5, 4, 3, 2, 1, 0] rfl)
end
section
theorem mw_18_9 : Cond.fieldLink RX0 59 "MudShares$Fit" "below" "J" ∈ wsL_law := ck_18 _ (List.mem_of_getElem? (i := 9) rfl)
theorem mw_3_21 : Cond.fieldLink RX0 25 "MudShares$Fit" "parts" "[J" ∈ wsL_law := ck_3 _ (List.mem_of_getElem? (i := 21) rfl)
theorem mw_3_18 : Cond.fieldLink RX0 15 "MudShares$Fit" "products" "[J" ∈ wsL_law := ck_3 _ (List.mem_of_getElem? (i := 18) rfl)
theorem mw_19_1 : Cond.methodLink RX0 106 yX0_productOf ∈ wsL_law := ck_19 _ (List.mem_of_getElem? (i := 1) rfl)
theorem mw_19_4 : Cond.code yX0_productOf cX0_productOf 4 (some .long) ∈ wsL_law := ck_19 _ (List.mem_of_getElem? (i := 4) rfl)
theorem mw_3_8 : Cond.initialized RX0 ∈ wsL_law := ck_3 _ (List.mem_of_getElem? (i := 8) rfl)
theorem mw_19_2 : Cond.instanceMethod yX0_productOf ∈ wsL_law := ck_19 _ (List.mem_of_getElem? (i := 2) rfl)
theorem mw_19_3 : Cond.selects RX0 yX0_productOf yX0_productOf ∈ wsL_law := ck_19 _ (List.mem_of_getElem? (i := 3) rfl)
theorem mw_18_8 : Cond.fieldLink RX0 49 "MudShares$Fit" "base" "I" ∈ wsL_law := ck_18 _ (List.mem_of_getElem? (i := 8) rfl)
theorem mw_3_19 : Cond.fieldLink RX0 19 "MudShares$Fit" "matrix" "[J" ∈ wsL_law := ck_3 _ (List.mem_of_getElem? (i := 19) rfl)
theorem mw_19_13 : Cond.methodLink RX0 103 yX0_entry ∈ wsL_law := ck_19 _ (List.mem_of_getElem? (i := 13) rfl)
theorem mw_19_16 : Cond.code yX0_entry cX0_entry 4 (some .long) ∈ wsL_law := ck_19 _ (List.mem_of_getElem? (i := 16) rfl)
theorem mw_19_14 : Cond.instanceMethod yX0_entry ∈ wsL_law := ck_19 _ (List.mem_of_getElem? (i := 14) rfl)
theorem mw_19_15 : Cond.selects RX0 yX0_entry yX0_entry ∈ wsL_law := ck_19 _ (List.mem_of_getElem? (i := 15) rfl)
theorem mw_19_9 : Cond.methodLink RX0 92 yX0_cofactor ∈ wsL_law := ck_19 _ (List.mem_of_getElem? (i := 9) rfl)
theorem mw_19_12 : Cond.code yX0_cofactor cX0_cofactor 3 (some .long) ∈ wsL_law := ck_19 _ (List.mem_of_getElem? (i := 12) rfl)
theorem mw_19_10 : Cond.instanceMethod yX0_cofactor ∈ wsL_law := ck_19 _ (List.mem_of_getElem? (i := 10) rfl)
theorem mw_19_11 : Cond.selects RX0 yX0_cofactor yX0_cofactor ∈ wsL_law := ck_19 _ (List.mem_of_getElem? (i := 11) rfl)
theorem mw_21_0 : Cond.methodLink RX0 77 yX0_isOnly ∈ wsL_law := ck_21 _ (List.mem_of_getElem? (i := 0) rfl)
theorem mw_21_3 : Cond.code yX0_isOnly cX0_isOnly 1 (some .boolean) ∈ wsL_law := ck_21 _ (List.mem_of_getElem? (i := 3) rfl)
theorem mw_21_1 : Cond.instanceMethod yX0_isOnly ∈ wsL_law := ck_21 _ (List.mem_of_getElem? (i := 1) rfl)
theorem mw_21_2 : Cond.selects RX0 yX0_isOnly yX0_isOnly ∈ wsL_law := ck_21 _ (List.mem_of_getElem? (i := 2) rfl)
theorem mw_18_7 : Cond.fieldLink RX0 41 "MudShares$Fit" "set" "I" ∈ wsL_law := ck_18 _ (List.mem_of_getElem? (i := 7) rfl)
theorem mw_18_21 : Cond.methodLink RX0 81 yX0_fromBase ∈ wsL_law := ck_18 _ (List.mem_of_getElem? (i := 21) rfl)
theorem mw_19_0 : Cond.code yX0_fromBase cX0_fromBase 3 (some .long) ∈ wsL_law := ck_19 _ (List.mem_of_getElem? (i := 0) rfl)
theorem mw_18_22 : Cond.instanceMethod yX0_fromBase ∈ wsL_law := ck_18 _ (List.mem_of_getElem? (i := 22) rfl)
theorem mw_18_23 : Cond.selects RX0 yX0_fromBase yX0_fromBase ∈ wsL_law := ck_18 _ (List.mem_of_getElem? (i := 23) rfl)
theorem mw_3_16 : Cond.fieldLink RX0 9 "MudShares$Fit" "mud" "LMudShares$Mud;" ∈ wsL_law := ck_3 _ (List.mem_of_getElem? (i := 16) rfl)
theorem mw_27_13 : Cond.methodLink RX0 85 yX2_heldOf ∈ wsL_law := ck_27 _ (List.mem_of_getElem? (i := 13) rfl)
theorem fg_X0_59 : FG RX0 59 0 8 := ⟨RX0, TX0, 9, rfl, by decide, inlX0, mw_18_9⟩
theorem fg_X0_25 : FG RX0 25 0 4 := ⟨RX0, TX0, 9, rfl, by decide, inlX0, mw_3_21⟩
theorem fg_X0_15 : FG RX0 15 0 1 := ⟨RX0, TX0, 9, rfl, by decide, inlX0, mw_3_18⟩
theorem fg_X0_49 : FG RX0 49 0 7 := ⟨RX0, TX0, 9, rfl, by decide, inlX0, mw_18_8⟩
theorem fg_X0_19 : FG RX0 19 0 2 := ⟨RX0, TX0, 9, rfl, by decide, inlX0, mw_3_19⟩
theorem fg_X0_41 : FG RX0 41 0 6 := ⟨RX0, TX0, 9, rfl, by decide, inlX0, mw_18_7⟩
theorem fg_X0_9 : FG RX0 9 0 0 := ⟨RX0, TX0, 9, rfl, by decide, inlX0, mw_3_16⟩
theorem kf_X0_productOf : KV RX0 yX0_productOf cX0_productOf 4 (some .long) 2 := ⟨mw_19_4, mw_19_2, mw_19_3, mw_3_8, by decide, by decide, by decide +kernel⟩
theorem kf_X0_entry : KV RX0 yX0_entry cX0_entry 4 (some .long) 2 := ⟨mw_19_16, mw_19_14, mw_19_15, mw_3_8, by decide, by decide, by decide +kernel⟩
theorem kf_X0_cofactor : KV RX0 yX0_cofactor cX0_cofactor 3 (some .long) 2 := ⟨mw_19_12, mw_19_10, mw_19_11, mw_3_8, by decide, by decide, by decide +kernel⟩
theorem kf_X0_isOnly : KV RX0 yX0_isOnly cX0_isOnly 1 (some .boolean) 0 := ⟨mw_21_3, mw_21_1, mw_21_2, mw_3_8, by decide, by decide, by decide +kernel⟩
theorem kf_X0_fromBase : KV RX0 yX0_fromBase cX0_fromBase 3 (some .long) 2 := ⟨mw_19_0, mw_18_22, mw_18_23, mw_3_8, by decide, by decide, by decide +kernel⟩
def L_X0_firstOf_2 (q1 : Int32) : Nat → Int32 → Int32
  | 0, _ => 0
  | n2 + 1, i1 => (if 4 ≤ i1 then 0 else (if (f_X6_isIn q1 i1) = 0 then L_X0_firstOf_2 q1 n2 (i1 + 1) else i1))
def f_X0_firstOf (q1 : Int32) : Int32 := L_X0_firstOf_2 q1 5 0
set_option maxRecDepth 100000 in
set_option maxHeartbeats 4000000 in
theorem c_X0_firstOf (l : Launch) (D : va_G) (cI cJ : ClassId) (q1 : Int32) : CI l yX0_firstOf cX0_firstOf 2 .int 1 D cI cJ [.int q1] [] [] (f_X0_firstOf q1) := by
  generalize hr : f_X0_firstOf q1 = r
  refine fr_entryI (by decide) rfl ?_
  intro p e s m args below meth c A Q H locs hQ C hret hlk w ls hl
  have hx := C.1
  have hb := C.2.1
  have hl : lv_has ls 2 [(0, .int q1)] := hl
  have hr : L_X0_firstOf_2 q1 5 0 = r := hr
  refine lv_iconst (v := 0) hx hb dX0_firstOf_0 (by decide) ?_
  refine lv_istore_n (lv' := [(1, .int 0), (0, .int q1)]) hx hb dX0_firstOf_1 rfl hl (by decide) rfl (fun ls hl => ?_)
  have LP2 : ∀ (n2 : Nat) (k2 : Nat) (i1 : Int32), i1 = nI k2 → k2 ≤ 4 → 4 < k2 + n2 → L_X0_firstOf_2 q1 n2 i1 = r → ∀ (H : Heap) (locs : List Loc), Wd D A s.heap H locs [] → ∀ (ls : Array Slot), lv_has ls 2 [(0, .int q1), (1, .int i1)] → W p l e (rl 1) s m args below meth c H locs 0 0 Q (F0 m 2 ls []) := by
    skip
    intro n2
    induction n2 with
    | zero => intro k2 i1 hk2 hkN2 hn2; exact absurd hn2 (by omega)
    | succ n2 ih2 =>
      intro k2 i1 hk2 hkN2 hn2 hr H locs w ls hl
      have hr : (if 4 ≤ i1 then 0 else (if (f_X6_isIn q1 i1) = 0 then L_X0_firstOf_2 q1 n2 (i1 + 1) else i1)) = r := hr
      refine lv_iload_n hx hb dX0_firstOf_2 rfl (lv_at hl 1 rfl) ?_
      refine lv_iconst (v := 4) hx hb dX0_firstOf_3 (by decide) ?_
      refine lv_icmp_ge (tgt := 23) hx hb dX0_firstOf_4 (by decide) (fun c4_2 => ?_) (fun c4_2 => ?_)
      · have hr := (if_pos c4_2).symm.trans hr
        refine lv_iconst (v := 0) hx hb dX0_firstOf_23 (by decide) ?_
        subst hr hQ
        exact fr_iret (W0 := []) C hret hlk w rfl rfl rfl dX0_firstOf_24
      · have hr := (if_neg c4_2).symm.trans hr
        have hkl2 := kl_of hk2 hkN2 (N := 4) (by decide) (by omega) c4_2
        refine lv_iload_n hx hb dX0_firstOf_7 rfl (lv_at hl 0 rfl) ?_
        refine lv_iload_n hx hb dX0_firstOf_8 rfl (lv_at hl 1 rfl) ?_
        refine fr_callIN (As := [.int q1, .int i1]) (rest := []) C w kf_X6_isIn C.2.2.2.2.2.2.2 (c_X6_isIn l D cI cJ q1 i1) ⟨Nat.le_of_ble_eq_true rfl, Nat.le_of_ble_eq_true rfl⟩ ⟨Nat.le_refl 0, Nat.le_refl 0⟩ [] rfl rfl rfl (ws' := []) rfl rfl hl.1 rfl (Nat.le_of_ble_eq_true rfl) dX0_firstOf_9 (fun H locs w => ?_)
        refine lv_if_eq (tgt := 17) hx hb dX0_firstOf_12 (by decide) (fun c12_3 => ?_) (fun c12_3 => ?_)
        · have hr := (if_pos c12_3).symm.trans hr
          refine lv_iinc (v := i1 + 1) (lv' := [(1, .int (i1 + 1)), (0, .int q1)]) hx hb dX0_firstOf_17 hl (k := 1) rfl rfl (by decide) rfl (fun ls hl => ?_)
          refine lv_goto (tgt := 2) hx hb dX0_firstOf_20 (by decide) ?_
          exact ih2 (k2 + 1) (i1 + 1) (by rw [hk2]; exact nI_1 k2) (by omega) (by omega) hr H locs w ls (lv_sub hl [1, 0] rfl)
        · have hr := (if_neg c12_3).symm.trans hr
          refine lv_iload_n hx hb dX0_firstOf_15 rfl (lv_at hl 1 rfl) ?_
          subst hr hQ
          exact fr_iret (W0 := []) C hret hlk w rfl rfl rfl dX0_firstOf_16
  exact LP2 5 0 0 (by decide) (by omega) (by omega) hr H locs w ls (lv_sub hl [1, 0] rfl)
def f_X0_isOnly (xbe : Int64) : Int32 := (if xbe ≤ 0 then 0 else 1)
set_option maxRecDepth 100000 in
set_option maxHeartbeats 4000000 in
theorem c_X0_isOnly (l : Launch) (D : va_G) (cI cJ : ClassId) (af au afp afm afs aft afq : Nat) (xfs : Int32) (xba : Int32) (xbe : Int64) (xpr : Nat → Int64) (xmx : Nat → Int64) (xsd : Nat → Int64) (xpt : Nat → Int64) (xfa : Int64) (xfb : Int64)  : CI l yX0_isOnly cX0_isOnly 1 .boolean 0 D cI cJ [.ref af] [(af, .inr (0, [.ref au, .ref afp, .ref afm, .ref afs, .ref aft, .ref afq, .int xfs, .int xba, .long xbe])), (afp, .inl (cJ, 25, .inr (.inl xpr))), (afm, .inl (cJ, 9, .inr (.inl xmx))), (afs, .inl (cJ, 3, .inr (.inl xsd))), (aft, .inl (cJ, 4, .inr (.inl xpt))), (afq, .inr (1, [.long xfa, .long xfb]))] [(af, .inr (0, [.ref au, .ref afp, .ref afm, .ref afs, .ref aft, .ref afq, .int xfs, .int xba, .long xbe])), (afp, .inl (cJ, 25, .inr (.inl xpr))), (afm, .inl (cJ, 9, .inr (.inl xmx))), (afs, .inl (cJ, 3, .inr (.inl xsd))), (aft, .inl (cJ, 4, .inr (.inl xpt))), (afq, .inr (1, [.long xfa, .long xfb]))] (f_X0_isOnly xbe) := by
  generalize hr : f_X0_isOnly xbe = r
  refine fr_entryI (by decide) rfl ?_
  intro p e s m args below meth c A Q H locs hQ C hret hlk w ls hl
  have hx := C.1
  have hb := C.2.1
  have hl : lv_has ls 1 [(0, .ref af)] := hl
  have hr : (if xbe ≤ 0 then 0 else 1) = r := hr
  refine lv_aload_n hx hb dX0_isOnly_0 rfl (lv_at hl 0 rfl) ?_
  refine fr_get C w fg_X0_59 0 rfl rfl dX0_isOnly_1 ?_
  refine lv_lconst (v := 0) hx hb dX0_isOnly_4 (by decide) ?_
  refine fr_lle (tgt := 13) hx hb dX0_isOnly_5 dX0_isOnly_6 (by decide) (fun c6_1 => ?_) (fun c6_1 => ?_)
  · have hr := (if_pos c6_1).symm.trans hr
    refine lv_iconst (v := 0) hx hb dX0_isOnly_13 (by decide) ?_
    subst hr hQ
    exact fr_iret (W0 := []) C hret hlk w rfl rfl rfl dX0_isOnly_14
  · have hr := (if_neg c6_1).symm.trans hr
    refine lv_iconst (v := 1) hx hb dX0_isOnly_9 (by decide) ?_
    refine lv_goto (tgt := 14) hx hb dX0_isOnly_10 (by decide) ?_
    subst hr hQ
    exact fr_iret (W0 := []) C hret hlk w rfl rfl rfl dX0_isOnly_14
theorem b_X0_isOnly (xbe : Int64) : (f_X0_isOnly xbe) = 0 ∨ (f_X0_isOnly xbe) = 1 := by
  unfold f_X0_isOnly
  try dsimp only
  repeat (first | exact Or.inl rfl | exact Or.inr rfl | split)
def f_X0_partOf (xpt : Nat → Int64) (q1 : Int32) : Int64 := (if q1 < 0 then 0 else (if 4 ≤ q1 then 0 else xpt (Int32.toNatClampNeg q1)))
set_option maxRecDepth 100000 in
set_option maxHeartbeats 4000000 in
theorem c_X0_partOf (l : Launch) (D : va_G) (cI cJ : ClassId) (af au afp afm afs aft afq : Nat) (xfs : Int32) (xba : Int32) (xbe : Int64) (xpr : Nat → Int64) (xmx : Nat → Int64) (xsd : Nat → Int64) (xpt : Nat → Int64) (xfa : Int64) (xfb : Int64) (q1 : Int32) : CL l yX0_partOf cX0_partOf 2 0 D cI cJ [.ref af, .int q1] [(af, .inr (0, [.ref au, .ref afp, .ref afm, .ref afs, .ref aft, .ref afq, .int xfs, .int xba, .long xbe])), (afp, .inl (cJ, 25, .inr (.inl xpr))), (afm, .inl (cJ, 9, .inr (.inl xmx))), (afs, .inl (cJ, 3, .inr (.inl xsd))), (aft, .inl (cJ, 4, .inr (.inl xpt))), (afq, .inr (1, [.long xfa, .long xfb]))] [(af, .inr (0, [.ref au, .ref afp, .ref afm, .ref afs, .ref aft, .ref afq, .int xfs, .int xba, .long xbe])), (afp, .inl (cJ, 25, .inr (.inl xpr))), (afm, .inl (cJ, 9, .inr (.inl xmx))), (afs, .inl (cJ, 3, .inr (.inl xsd))), (aft, .inl (cJ, 4, .inr (.inl xpt))), (afq, .inr (1, [.long xfa, .long xfb]))] (f_X0_partOf xpt q1) := by
  generalize hr : f_X0_partOf xpt q1 = r
  refine fr_entryL (by decide) rfl ?_
  intro p e s m args below meth c A Q H locs hQ C hret hlk w ls hl
  have hx := C.1
  have hb := C.2.1
  have hl : lv_has ls 2 [(0, .ref af), (1, .int q1)] := hl
  have hr : (if q1 < 0 then 0 else (if 4 ≤ q1 then 0 else xpt (Int32.toNatClampNeg q1))) = r := hr
  refine lv_iload_n hx hb dX0_partOf_0 rfl (lv_at hl 1 rfl) ?_
  refine lv_if_lt (tgt := 18) hx hb dX0_partOf_1 (by decide) (fun c1_1 => ?_) (fun c1_1 => ?_)
  · have hr := (if_pos c1_1).symm.trans hr
    refine lv_lconst (v := 0) hx hb dX0_partOf_18 (by decide) ?_
    subst hr hQ
    exact fr_lret C hret hlk w rfl rfl dX0_partOf_19
  · have hr := (if_neg c1_1).symm.trans hr
    refine lv_iload_n hx hb dX0_partOf_4 rfl (lv_at hl 1 rfl) ?_
    refine lv_iconst (v := 4) hx hb dX0_partOf_5 (by decide) ?_
    refine lv_icmp_ge (tgt := 18) hx hb dX0_partOf_6 (by decide) (fun c6_2 => ?_) (fun c6_2 => ?_)
    · have hr := (if_pos c6_2).symm.trans hr
      refine lv_lconst (v := 0) hx hb dX0_partOf_18 (by decide) ?_
      subst hr hQ
      exact fr_lret C hret hlk w rfl rfl dX0_partOf_19
    · have hr := (if_neg c6_2).symm.trans hr
      refine lv_aload_n hx hb dX0_partOf_9 rfl (lv_at hl 0 rfl) ?_
      refine fr_get C w fg_X0_25 0 rfl rfl dX0_partOf_10 ?_
      refine lv_iload_n hx hb dX0_partOf_13 rfl (lv_at hl 1 rfl) ?_
      refine fr_lald C w 4 rfl (vi_guard (by assumption) (by assumption) (by decide)) dX0_partOf_14 ?_
      refine lv_goto (tgt := 19) hx hb dX0_partOf_15 (by decide) ?_
      subst hr hQ
      exact fr_lret C hret hlk w rfl rfl dX0_partOf_19
def f_X0_productOf (xpr : Nat → Int64) (ro : Int32) (ot : Int32) : Int64 := (if ((ro * 5) + ot) < 0 then 0 else (if 25 ≤ ((ro * 5) + ot) then 0 else xpr (Int32.toNatClampNeg ((ro * 5) + ot))))
set_option maxRecDepth 100000 in
set_option maxHeartbeats 4000000 in
theorem c_X0_productOf (l : Launch) (D : va_G) (cI cJ : ClassId) (af au afp afm afs aft afq : Nat) (xfs : Int32) (xba : Int32) (xbe : Int64) (xpr : Nat → Int64) (xmx : Nat → Int64) (xsd : Nat → Int64) (xpt : Nat → Int64) (xfa : Int64) (xfb : Int64) (ro : Int32) (ot : Int32) : CL l yX0_productOf cX0_productOf 4 0 D cI cJ [.ref af, .int ro, .int ot] [(af, .inr (0, [.ref au, .ref afp, .ref afm, .ref afs, .ref aft, .ref afq, .int xfs, .int xba, .long xbe])), (afp, .inl (cJ, 25, .inr (.inl xpr))), (afm, .inl (cJ, 9, .inr (.inl xmx))), (afs, .inl (cJ, 3, .inr (.inl xsd))), (aft, .inl (cJ, 4, .inr (.inl xpt))), (afq, .inr (1, [.long xfa, .long xfb]))] [(af, .inr (0, [.ref au, .ref afp, .ref afm, .ref afs, .ref aft, .ref afq, .int xfs, .int xba, .long xbe])), (afp, .inl (cJ, 25, .inr (.inl xpr))), (afm, .inl (cJ, 9, .inr (.inl xmx))), (afs, .inl (cJ, 3, .inr (.inl xsd))), (aft, .inl (cJ, 4, .inr (.inl xpt))), (afq, .inr (1, [.long xfa, .long xfb]))] (f_X0_productOf xpr ro ot) := by
  generalize hr : f_X0_productOf xpr ro ot = r
  refine fr_entryL (by decide) rfl ?_
  intro p e s m args below meth c A Q H locs hQ C hret hlk w ls hl
  have hx := C.1
  have hb := C.2.1
  have hl : lv_has ls 4 [(0, .ref af), (1, .int ro), (2, .int ot)] := hl
  have hr : (if ((ro * 5) + ot) < 0 then 0 else (if 25 ≤ ((ro * 5) + ot) then 0 else xpr (Int32.toNatClampNeg ((ro * 5) + ot)))) = r := hr
  refine lv_iload_n hx hb dX0_productOf_0 rfl (lv_at hl 1 rfl) ?_
  refine lv_iconst (v := 5) hx hb dX0_productOf_1 (by decide) ?_
  refine lv_imul hx hb dX0_productOf_2 ?_
  refine lv_iload_n hx hb dX0_productOf_3 rfl (lv_at hl 2 rfl) ?_
  refine lv_iadd hx hb dX0_productOf_4 ?_
  refine lv_istore_n (lv' := [(3, .int ((ro * 5) + ot)), (0, .ref af), (1, .int ro), (2, .int ot)]) hx hb dX0_productOf_5 rfl hl (by decide) rfl (fun ls hl => ?_)
  refine lv_iload_n hx hb dX0_productOf_6 rfl (lv_at hl 0 rfl) ?_
  refine lv_if_lt (tgt := 25) hx hb dX0_productOf_7 (by decide) (fun c7_1 => ?_) (fun c7_1 => ?_)
  · have hr := (if_pos c7_1).symm.trans hr
    refine lv_lconst (v := 0) hx hb dX0_productOf_25 (by decide) ?_
    subst hr hQ
    exact fr_lret C hret hlk w rfl rfl dX0_productOf_26
  · have hr := (if_neg c7_1).symm.trans hr
    refine lv_iload_n hx hb dX0_productOf_10 rfl (lv_at hl 0 rfl) ?_
    refine lv_bipush (v := 25) hx hb dX0_productOf_11 (by decide) ?_
    refine lv_icmp_ge (tgt := 25) hx hb dX0_productOf_13 (by decide) (fun c13_2 => ?_) (fun c13_2 => ?_)
    · have hr := (if_pos c13_2).symm.trans hr
      refine lv_lconst (v := 0) hx hb dX0_productOf_25 (by decide) ?_
      subst hr hQ
      exact fr_lret C hret hlk w rfl rfl dX0_productOf_26
    · have hr := (if_neg c13_2).symm.trans hr
      refine lv_aload_n hx hb dX0_productOf_16 rfl (lv_at hl 1 rfl) ?_
      refine fr_get C w fg_X0_15 0 rfl rfl dX0_productOf_17 ?_
      refine lv_iload_n hx hb dX0_productOf_20 rfl (lv_at hl 0 rfl) ?_
      refine fr_lald C w 1 rfl (vi_guard (by assumption) (by assumption) (by decide)) dX0_productOf_21 ?_
      refine lv_goto (tgt := 26) hx hb dX0_productOf_22 (by decide) ?_
      subst hr hQ
      exact fr_lret C hret hlk w rfl rfl dX0_productOf_26
def f_X0_fromBase (xba : Int32) (xpr : Nat → Int64) (ro : Int32) (ot : Int32) : Int64 := (((f_X0_productOf xpr ro ot) - (f_X0_productOf xpr ro xba)) - (f_X0_productOf xpr xba ot)) + (f_X0_productOf xpr xba xba)
set_option maxRecDepth 100000 in
set_option maxHeartbeats 4000000 in
theorem c_X0_fromBase (l : Launch) (D : va_G) (cI cJ : ClassId) (af au afp afm afs aft afq : Nat) (xfs : Int32) (xba : Int32) (xbe : Int64) (xpr : Nat → Int64) (xmx : Nat → Int64) (xsd : Nat → Int64) (xpt : Nat → Int64) (xfa : Int64) (xfb : Int64) (ro : Int32) (ot : Int32) : CL l yX0_fromBase cX0_fromBase 3 1 D cI cJ [.ref af, .int ro, .int ot] [(af, .inr (0, [.ref au, .ref afp, .ref afm, .ref afs, .ref aft, .ref afq, .int xfs, .int xba, .long xbe])), (afp, .inl (cJ, 25, .inr (.inl xpr))), (afm, .inl (cJ, 9, .inr (.inl xmx))), (afs, .inl (cJ, 3, .inr (.inl xsd))), (aft, .inl (cJ, 4, .inr (.inl xpt))), (afq, .inr (1, [.long xfa, .long xfb]))] [(af, .inr (0, [.ref au, .ref afp, .ref afm, .ref afs, .ref aft, .ref afq, .int xfs, .int xba, .long xbe])), (afp, .inl (cJ, 25, .inr (.inl xpr))), (afm, .inl (cJ, 9, .inr (.inl xmx))), (afs, .inl (cJ, 3, .inr (.inl xsd))), (aft, .inl (cJ, 4, .inr (.inl xpt))), (afq, .inr (1, [.long xfa, .long xfb]))] (f_X0_fromBase xba xpr ro ot) := by
  generalize hr : f_X0_fromBase xba xpr ro ot = r
  refine fr_entryL (by decide) rfl ?_
  intro p e s m args below meth c A Q H locs hQ C hret hlk w ls hl
  have hx := C.1
  have hb := C.2.1
  have hl : lv_has ls 3 [(0, .ref af), (1, .int ro), (2, .int ot)] := hl
  have hr : (((f_X0_productOf xpr ro ot) - (f_X0_productOf xpr ro xba)) - (f_X0_productOf xpr xba ot)) + (f_X0_productOf xpr xba xba) = r := hr
  refine lv_aload_n hx hb dX0_fromBase_0 rfl (lv_at hl 0 rfl) ?_
  refine lv_iload_n hx hb dX0_fromBase_1 rfl (lv_at hl 1 rfl) ?_
  refine lv_iload_n hx hb dX0_fromBase_2 rfl (lv_at hl 2 rfl) ?_
  refine fr_callLV (As := [.int ro, .int ot]) (rest := []) C w kf_X0_productOf mw_19_1 (c_X0_productOf l D cI cJ af au afp afm afs aft afq xfs xba xbe xpr xmx xsd xpt xfa xfb ro ot) ⟨Nat.le_of_ble_eq_true rfl, Nat.le_of_ble_eq_true rfl⟩ ⟨Nat.le_refl 0, Nat.le_refl 0⟩ [0, 1, 2, 3, 4, 5] rfl rfl rfl (ws' := [(af, .inr (0, [.ref au, .ref afp, .ref afm, .ref afs, .ref aft, .ref afq, .int xfs, .int xba, .long xbe])), (afp, .inl (cJ, 25, .inr (.inl xpr))), (afm, .inl (cJ, 9, .inr (.inl xmx))), (afs, .inl (cJ, 3, .inr (.inl xsd))), (aft, .inl (cJ, 4, .inr (.inl xpt))), (afq, .inr (1, [.long xfa, .long xfb]))]) rfl rfl rfl rfl hl.1 rfl (Nat.le_of_ble_eq_true rfl) dX0_fromBase_3 (fun H locs w => ?_)
  refine lv_aload_n hx hb dX0_fromBase_6 rfl (lv_at hl 0 rfl) ?_
  refine lv_iload_n hx hb dX0_fromBase_7 rfl (lv_at hl 1 rfl) ?_
  refine lv_aload_n hx hb dX0_fromBase_8 rfl (lv_at hl 0 rfl) ?_
  refine fr_get C w fg_X0_49 0 rfl rfl dX0_fromBase_9 ?_
  refine fr_callLV (As := [.int ro, .int xba]) (rest := [.long (f_X0_productOf xpr ro ot)]) C w kf_X0_productOf mw_19_1 (c_X0_productOf l D cI cJ af au afp afm afs aft afq xfs xba xbe xpr xmx xsd xpt xfa xfb ro xba) ⟨Nat.le_of_ble_eq_true rfl, Nat.le_of_ble_eq_true rfl⟩ ⟨Nat.le_refl 0, Nat.le_refl 0⟩ [0, 1, 2, 3, 4, 5] rfl rfl rfl (ws' := [(af, .inr (0, [.ref au, .ref afp, .ref afm, .ref afs, .ref aft, .ref afq, .int xfs, .int xba, .long xbe])), (afp, .inl (cJ, 25, .inr (.inl xpr))), (afm, .inl (cJ, 9, .inr (.inl xmx))), (afs, .inl (cJ, 3, .inr (.inl xsd))), (aft, .inl (cJ, 4, .inr (.inl xpt))), (afq, .inr (1, [.long xfa, .long xfb]))]) rfl rfl rfl rfl hl.1 rfl (Nat.le_of_ble_eq_true rfl) dX0_fromBase_12 (fun H locs w => ?_)
  refine lv_lsub hx hb dX0_fromBase_15 ?_
  refine lv_aload_n hx hb dX0_fromBase_16 rfl (lv_at hl 0 rfl) ?_
  refine lv_aload_n hx hb dX0_fromBase_17 rfl (lv_at hl 0 rfl) ?_
  refine fr_get C w fg_X0_49 0 rfl rfl dX0_fromBase_18 ?_
  refine lv_iload_n hx hb dX0_fromBase_21 rfl (lv_at hl 2 rfl) ?_
  refine fr_callLV (As := [.int xba, .int ot]) (rest := [.long ((f_X0_productOf xpr ro ot) - (f_X0_productOf xpr ro xba))]) C w kf_X0_productOf mw_19_1 (c_X0_productOf l D cI cJ af au afp afm afs aft afq xfs xba xbe xpr xmx xsd xpt xfa xfb xba ot) ⟨Nat.le_of_ble_eq_true rfl, Nat.le_of_ble_eq_true rfl⟩ ⟨Nat.le_refl 0, Nat.le_refl 0⟩ [0, 1, 2, 3, 4, 5] rfl rfl rfl (ws' := [(af, .inr (0, [.ref au, .ref afp, .ref afm, .ref afs, .ref aft, .ref afq, .int xfs, .int xba, .long xbe])), (afp, .inl (cJ, 25, .inr (.inl xpr))), (afm, .inl (cJ, 9, .inr (.inl xmx))), (afs, .inl (cJ, 3, .inr (.inl xsd))), (aft, .inl (cJ, 4, .inr (.inl xpt))), (afq, .inr (1, [.long xfa, .long xfb]))]) rfl rfl rfl rfl hl.1 rfl (Nat.le_of_ble_eq_true rfl) dX0_fromBase_22 (fun H locs w => ?_)
  refine lv_lsub hx hb dX0_fromBase_25 ?_
  refine lv_aload_n hx hb dX0_fromBase_26 rfl (lv_at hl 0 rfl) ?_
  refine lv_aload_n hx hb dX0_fromBase_27 rfl (lv_at hl 0 rfl) ?_
  refine fr_get C w fg_X0_49 0 rfl rfl dX0_fromBase_28 ?_
  refine lv_aload_n hx hb dX0_fromBase_31 rfl (lv_at hl 0 rfl) ?_
  refine fr_get C w fg_X0_49 0 rfl rfl dX0_fromBase_32 ?_
  refine fr_callLV (As := [.int xba, .int xba]) (rest := [.long (((f_X0_productOf xpr ro ot) - (f_X0_productOf xpr ro xba)) - (f_X0_productOf xpr xba ot))]) C w kf_X0_productOf mw_19_1 (c_X0_productOf l D cI cJ af au afp afm afs aft afq xfs xba xbe xpr xmx xsd xpt xfa xfb xba xba) ⟨Nat.le_of_ble_eq_true rfl, Nat.le_of_ble_eq_true rfl⟩ ⟨Nat.le_refl 0, Nat.le_refl 0⟩ [0, 1, 2, 3, 4, 5] rfl rfl rfl (ws' := [(af, .inr (0, [.ref au, .ref afp, .ref afm, .ref afs, .ref aft, .ref afq, .int xfs, .int xba, .long xbe])), (afp, .inl (cJ, 25, .inr (.inl xpr))), (afm, .inl (cJ, 9, .inr (.inl xmx))), (afs, .inl (cJ, 3, .inr (.inl xsd))), (aft, .inl (cJ, 4, .inr (.inl xpt))), (afq, .inr (1, [.long xfa, .long xfb]))]) rfl rfl rfl rfl hl.1 rfl (Nat.le_of_ble_eq_true rfl) dX0_fromBase_35 (fun H locs w => ?_)
  refine lv_ladd hx hb dX0_fromBase_38 ?_
  subst hr hQ
  exact fr_lret C hret hlk w rfl rfl dX0_fromBase_39
def f_X0_otherAt (xba : Int32) (q1 : Int32) : Int32 := (if xba ≤ q1 then q1 + 1 else q1)
set_option maxRecDepth 100000 in
set_option maxHeartbeats 4000000 in
theorem c_X0_otherAt (l : Launch) (D : va_G) (cI cJ : ClassId) (af au afp afm afs aft afq : Nat) (xfs : Int32) (xba : Int32) (xbe : Int64) (xpr : Nat → Int64) (xmx : Nat → Int64) (xsd : Nat → Int64) (xpt : Nat → Int64) (xfa : Int64) (xfb : Int64) (q1 : Int32) : CI l yX0_otherAt cX0_otherAt 2 .int 0 D cI cJ [.ref af, .int q1] [(af, .inr (0, [.ref au, .ref afp, .ref afm, .ref afs, .ref aft, .ref afq, .int xfs, .int xba, .long xbe])), (afp, .inl (cJ, 25, .inr (.inl xpr))), (afm, .inl (cJ, 9, .inr (.inl xmx))), (afs, .inl (cJ, 3, .inr (.inl xsd))), (aft, .inl (cJ, 4, .inr (.inl xpt))), (afq, .inr (1, [.long xfa, .long xfb]))] [(af, .inr (0, [.ref au, .ref afp, .ref afm, .ref afs, .ref aft, .ref afq, .int xfs, .int xba, .long xbe])), (afp, .inl (cJ, 25, .inr (.inl xpr))), (afm, .inl (cJ, 9, .inr (.inl xmx))), (afs, .inl (cJ, 3, .inr (.inl xsd))), (aft, .inl (cJ, 4, .inr (.inl xpt))), (afq, .inr (1, [.long xfa, .long xfb]))] (f_X0_otherAt xba q1) := by
  generalize hr : f_X0_otherAt xba q1 = r
  refine fr_entryI (by decide) rfl ?_
  intro p e s m args below meth c A Q H locs hQ C hret hlk w ls hl
  have hx := C.1
  have hb := C.2.1
  have hl : lv_has ls 2 [(0, .ref af), (1, .int q1)] := hl
  have hr : (if xba ≤ q1 then q1 + 1 else q1) = r := hr
  refine lv_iload_n hx hb dX0_otherAt_0 rfl (lv_at hl 1 rfl) ?_
  refine lv_aload_n hx hb dX0_otherAt_1 rfl (lv_at hl 0 rfl) ?_
  refine fr_get C w fg_X0_49 0 rfl rfl dX0_otherAt_2 ?_
  refine lv_icmp_ge (tgt := 12) hx hb dX0_otherAt_5 (by decide) (fun c5_1 => ?_) (fun c5_1 => ?_)
  · have hr := (if_pos c5_1).symm.trans hr
    refine lv_iload_n hx hb dX0_otherAt_12 rfl (lv_at hl 1 rfl) ?_
    refine lv_iconst (v := 1) hx hb dX0_otherAt_13 (by decide) ?_
    refine lv_iadd hx hb dX0_otherAt_14 ?_
    subst hr hQ
    exact fr_iret (W0 := []) C hret hlk w rfl rfl rfl dX0_otherAt_15
  · have hr := (if_neg c5_1).symm.trans hr
    refine lv_iload_n hx hb dX0_otherAt_8 rfl (lv_at hl 1 rfl) ?_
    refine lv_goto (tgt := 15) hx hb dX0_otherAt_9 (by decide) ?_
    subst hr hQ
    exact fr_iret (W0 := []) C hret hlk w rfl rfl rfl dX0_otherAt_15
def f_X0_entry (xmx : Nat → Int64) (q1 : Int32) (q2 : Int32) : Int64 := (if (((q1 - q1 / 3 * 3) * 3) + (q2 - q2 / 3 * 3)) < 0 then 0 else (if 9 ≤ (((q1 - q1 / 3 * 3) * 3) + (q2 - q2 / 3 * 3)) then 0 else xmx (Int32.toNatClampNeg (((q1 - q1 / 3 * 3) * 3) + (q2 - q2 / 3 * 3)))))
set_option maxRecDepth 100000 in
set_option maxHeartbeats 4000000 in
theorem c_X0_entry (l : Launch) (D : va_G) (cI cJ : ClassId) (af au afp afm afs aft afq : Nat) (xfs : Int32) (xba : Int32) (xbe : Int64) (xpr : Nat → Int64) (xmx : Nat → Int64) (xsd : Nat → Int64) (xpt : Nat → Int64) (xfa : Int64) (xfb : Int64) (q1 : Int32) (q2 : Int32) : CL l yX0_entry cX0_entry 4 0 D cI cJ [.ref af, .int q1, .int q2] [(af, .inr (0, [.ref au, .ref afp, .ref afm, .ref afs, .ref aft, .ref afq, .int xfs, .int xba, .long xbe])), (afp, .inl (cJ, 25, .inr (.inl xpr))), (afm, .inl (cJ, 9, .inr (.inl xmx))), (afs, .inl (cJ, 3, .inr (.inl xsd))), (aft, .inl (cJ, 4, .inr (.inl xpt))), (afq, .inr (1, [.long xfa, .long xfb]))] [(af, .inr (0, [.ref au, .ref afp, .ref afm, .ref afs, .ref aft, .ref afq, .int xfs, .int xba, .long xbe])), (afp, .inl (cJ, 25, .inr (.inl xpr))), (afm, .inl (cJ, 9, .inr (.inl xmx))), (afs, .inl (cJ, 3, .inr (.inl xsd))), (aft, .inl (cJ, 4, .inr (.inl xpt))), (afq, .inr (1, [.long xfa, .long xfb]))] (f_X0_entry xmx q1 q2) := by
  generalize hr : f_X0_entry xmx q1 q2 = r
  refine fr_entryL (by decide) rfl ?_
  intro p e s m args below meth c A Q H locs hQ C hret hlk w ls hl
  have hx := C.1
  have hb := C.2.1
  have hl : lv_has ls 4 [(0, .ref af), (1, .int q1), (2, .int q2)] := hl
  have hr : (if (((q1 - q1 / 3 * 3) * 3) + (q2 - q2 / 3 * 3)) < 0 then 0 else (if 9 ≤ (((q1 - q1 / 3 * 3) * 3) + (q2 - q2 / 3 * 3)) then 0 else xmx (Int32.toNatClampNeg (((q1 - q1 / 3 * 3) * 3) + (q2 - q2 / 3 * 3))))) = r := hr
  refine lv_iload_n hx hb dX0_entry_0 rfl (lv_at hl 1 rfl) ?_
  refine lv_iconst (v := 3) hx hb dX0_entry_1 (by decide) ?_
  refine lv_irem hx hb dX0_entry_2 (by decide) ?_
  refine lv_iconst (v := 3) hx hb dX0_entry_3 (by decide) ?_
  refine lv_imul hx hb dX0_entry_4 ?_
  refine lv_iload_n hx hb dX0_entry_5 rfl (lv_at hl 2 rfl) ?_
  refine lv_iconst (v := 3) hx hb dX0_entry_6 (by decide) ?_
  refine lv_irem hx hb dX0_entry_7 (by decide) ?_
  refine lv_iadd hx hb dX0_entry_8 ?_
  refine lv_istore_n (lv' := [(3, .int (((q1 - q1 / 3 * 3) * 3) + (q2 - q2 / 3 * 3))), (0, .ref af), (1, .int q1), (2, .int q2)]) hx hb dX0_entry_9 rfl hl (by decide) rfl (fun ls hl => ?_)
  refine lv_iload_n hx hb dX0_entry_10 rfl (lv_at hl 0 rfl) ?_
  refine lv_if_lt (tgt := 29) hx hb dX0_entry_11 (by decide) (fun c11_1 => ?_) (fun c11_1 => ?_)
  · have hr := (if_pos c11_1).symm.trans hr
    refine lv_lconst (v := 0) hx hb dX0_entry_29 (by decide) ?_
    subst hr hQ
    exact fr_lret C hret hlk w rfl rfl dX0_entry_30
  · have hr := (if_neg c11_1).symm.trans hr
    refine lv_iload_n hx hb dX0_entry_14 rfl (lv_at hl 0 rfl) ?_
    refine lv_bipush (v := 9) hx hb dX0_entry_15 (by decide) ?_
    refine lv_icmp_ge (tgt := 29) hx hb dX0_entry_17 (by decide) (fun c17_2 => ?_) (fun c17_2 => ?_)
    · have hr := (if_pos c17_2).symm.trans hr
      refine lv_lconst (v := 0) hx hb dX0_entry_29 (by decide) ?_
      subst hr hQ
      exact fr_lret C hret hlk w rfl rfl dX0_entry_30
    · have hr := (if_neg c17_2).symm.trans hr
      refine lv_aload_n hx hb dX0_entry_20 rfl (lv_at hl 1 rfl) ?_
      refine fr_get C w fg_X0_19 0 rfl rfl dX0_entry_21 ?_
      refine lv_iload_n hx hb dX0_entry_24 rfl (lv_at hl 0 rfl) ?_
      refine fr_lald C w 2 rfl (vi_guard (by assumption) (by assumption) (by decide)) dX0_entry_25 ?_
      refine lv_goto (tgt := 30) hx hb dX0_entry_26 (by decide) ?_
      subst hr hQ
      exact fr_lret C hret hlk w rfl rfl dX0_entry_30
def f_X0_cofactor (xmx : Nat → Int64) (q1 : Int32) (q2 : Int32) : Int64 := ((f_X0_entry xmx (q1 + 1) (q2 + 1)) * (f_X0_entry xmx (q1 + 2) (q2 + 2))) - ((f_X0_entry xmx (q1 + 1) (q2 + 2)) * (f_X0_entry xmx (q1 + 2) (q2 + 1)))
set_option maxRecDepth 100000 in
set_option maxHeartbeats 4000000 in
theorem c_X0_cofactor (l : Launch) (D : va_G) (cI cJ : ClassId) (af au afp afm afs aft afq : Nat) (xfs : Int32) (xba : Int32) (xbe : Int64) (xpr : Nat → Int64) (xmx : Nat → Int64) (xsd : Nat → Int64) (xpt : Nat → Int64) (xfa : Int64) (xfb : Int64) (q1 : Int32) (q2 : Int32) : CL l yX0_cofactor cX0_cofactor 3 1 D cI cJ [.ref af, .int q1, .int q2] [(af, .inr (0, [.ref au, .ref afp, .ref afm, .ref afs, .ref aft, .ref afq, .int xfs, .int xba, .long xbe])), (afp, .inl (cJ, 25, .inr (.inl xpr))), (afm, .inl (cJ, 9, .inr (.inl xmx))), (afs, .inl (cJ, 3, .inr (.inl xsd))), (aft, .inl (cJ, 4, .inr (.inl xpt))), (afq, .inr (1, [.long xfa, .long xfb]))] [(af, .inr (0, [.ref au, .ref afp, .ref afm, .ref afs, .ref aft, .ref afq, .int xfs, .int xba, .long xbe])), (afp, .inl (cJ, 25, .inr (.inl xpr))), (afm, .inl (cJ, 9, .inr (.inl xmx))), (afs, .inl (cJ, 3, .inr (.inl xsd))), (aft, .inl (cJ, 4, .inr (.inl xpt))), (afq, .inr (1, [.long xfa, .long xfb]))] (f_X0_cofactor xmx q1 q2) := by
  generalize hr : f_X0_cofactor xmx q1 q2 = r
  refine fr_entryL (by decide) rfl ?_
  intro p e s m args below meth c A Q H locs hQ C hret hlk w ls hl
  have hx := C.1
  have hb := C.2.1
  have hl : lv_has ls 3 [(0, .ref af), (1, .int q1), (2, .int q2)] := hl
  have hr : ((f_X0_entry xmx (q1 + 1) (q2 + 1)) * (f_X0_entry xmx (q1 + 2) (q2 + 2))) - ((f_X0_entry xmx (q1 + 1) (q2 + 2)) * (f_X0_entry xmx (q1 + 2) (q2 + 1))) = r := hr
  refine lv_aload_n hx hb dX0_cofactor_0 rfl (lv_at hl 0 rfl) ?_
  refine lv_iload_n hx hb dX0_cofactor_1 rfl (lv_at hl 1 rfl) ?_
  refine lv_iconst (v := 1) hx hb dX0_cofactor_2 (by decide) ?_
  refine lv_iadd hx hb dX0_cofactor_3 ?_
  refine lv_iload_n hx hb dX0_cofactor_4 rfl (lv_at hl 2 rfl) ?_
  refine lv_iconst (v := 1) hx hb dX0_cofactor_5 (by decide) ?_
  refine lv_iadd hx hb dX0_cofactor_6 ?_
  refine fr_callLV (As := [.int (q1 + 1), .int (q2 + 1)]) (rest := []) C w kf_X0_entry mw_19_13 (c_X0_entry l D cI cJ af au afp afm afs aft afq xfs xba xbe xpr xmx xsd xpt xfa xfb (q1 + 1) (q2 + 1)) ⟨Nat.le_of_ble_eq_true rfl, Nat.le_of_ble_eq_true rfl⟩ ⟨Nat.le_refl 0, Nat.le_refl 0⟩ [0, 1, 2, 3, 4, 5] rfl rfl rfl (ws' := [(af, .inr (0, [.ref au, .ref afp, .ref afm, .ref afs, .ref aft, .ref afq, .int xfs, .int xba, .long xbe])), (afp, .inl (cJ, 25, .inr (.inl xpr))), (afm, .inl (cJ, 9, .inr (.inl xmx))), (afs, .inl (cJ, 3, .inr (.inl xsd))), (aft, .inl (cJ, 4, .inr (.inl xpt))), (afq, .inr (1, [.long xfa, .long xfb]))]) rfl rfl rfl rfl hl.1 rfl (Nat.le_of_ble_eq_true rfl) dX0_cofactor_7 (fun H locs w => ?_)
  refine lv_aload_n hx hb dX0_cofactor_10 rfl (lv_at hl 0 rfl) ?_
  refine lv_iload_n hx hb dX0_cofactor_11 rfl (lv_at hl 1 rfl) ?_
  refine lv_iconst (v := 2) hx hb dX0_cofactor_12 (by decide) ?_
  refine lv_iadd hx hb dX0_cofactor_13 ?_
  refine lv_iload_n hx hb dX0_cofactor_14 rfl (lv_at hl 2 rfl) ?_
  refine lv_iconst (v := 2) hx hb dX0_cofactor_15 (by decide) ?_
  refine lv_iadd hx hb dX0_cofactor_16 ?_
  refine fr_callLV (As := [.int (q1 + 2), .int (q2 + 2)]) (rest := [.long (f_X0_entry xmx (q1 + 1) (q2 + 1))]) C w kf_X0_entry mw_19_13 (c_X0_entry l D cI cJ af au afp afm afs aft afq xfs xba xbe xpr xmx xsd xpt xfa xfb (q1 + 2) (q2 + 2)) ⟨Nat.le_of_ble_eq_true rfl, Nat.le_of_ble_eq_true rfl⟩ ⟨Nat.le_refl 0, Nat.le_refl 0⟩ [0, 1, 2, 3, 4, 5] rfl rfl rfl (ws' := [(af, .inr (0, [.ref au, .ref afp, .ref afm, .ref afs, .ref aft, .ref afq, .int xfs, .int xba, .long xbe])), (afp, .inl (cJ, 25, .inr (.inl xpr))), (afm, .inl (cJ, 9, .inr (.inl xmx))), (afs, .inl (cJ, 3, .inr (.inl xsd))), (aft, .inl (cJ, 4, .inr (.inl xpt))), (afq, .inr (1, [.long xfa, .long xfb]))]) rfl rfl rfl rfl hl.1 rfl (Nat.le_of_ble_eq_true rfl) dX0_cofactor_17 (fun H locs w => ?_)
  refine lv_lmul hx hb dX0_cofactor_20 ?_
  refine lv_aload_n hx hb dX0_cofactor_21 rfl (lv_at hl 0 rfl) ?_
  refine lv_iload_n hx hb dX0_cofactor_22 rfl (lv_at hl 1 rfl) ?_
  refine lv_iconst (v := 1) hx hb dX0_cofactor_23 (by decide) ?_
  refine lv_iadd hx hb dX0_cofactor_24 ?_
  refine lv_iload_n hx hb dX0_cofactor_25 rfl (lv_at hl 2 rfl) ?_
  refine lv_iconst (v := 2) hx hb dX0_cofactor_26 (by decide) ?_
  refine lv_iadd hx hb dX0_cofactor_27 ?_
  refine fr_callLV (As := [.int (q1 + 1), .int (q2 + 2)]) (rest := [.long ((f_X0_entry xmx (q1 + 1) (q2 + 1)) * (f_X0_entry xmx (q1 + 2) (q2 + 2)))]) C w kf_X0_entry mw_19_13 (c_X0_entry l D cI cJ af au afp afm afs aft afq xfs xba xbe xpr xmx xsd xpt xfa xfb (q1 + 1) (q2 + 2)) ⟨Nat.le_of_ble_eq_true rfl, Nat.le_of_ble_eq_true rfl⟩ ⟨Nat.le_refl 0, Nat.le_refl 0⟩ [0, 1, 2, 3, 4, 5] rfl rfl rfl (ws' := [(af, .inr (0, [.ref au, .ref afp, .ref afm, .ref afs, .ref aft, .ref afq, .int xfs, .int xba, .long xbe])), (afp, .inl (cJ, 25, .inr (.inl xpr))), (afm, .inl (cJ, 9, .inr (.inl xmx))), (afs, .inl (cJ, 3, .inr (.inl xsd))), (aft, .inl (cJ, 4, .inr (.inl xpt))), (afq, .inr (1, [.long xfa, .long xfb]))]) rfl rfl rfl rfl hl.1 rfl (Nat.le_of_ble_eq_true rfl) dX0_cofactor_28 (fun H locs w => ?_)
  refine lv_aload_n hx hb dX0_cofactor_31 rfl (lv_at hl 0 rfl) ?_
  refine lv_iload_n hx hb dX0_cofactor_32 rfl (lv_at hl 1 rfl) ?_
  refine lv_iconst (v := 2) hx hb dX0_cofactor_33 (by decide) ?_
  refine lv_iadd hx hb dX0_cofactor_34 ?_
  refine lv_iload_n hx hb dX0_cofactor_35 rfl (lv_at hl 2 rfl) ?_
  refine lv_iconst (v := 1) hx hb dX0_cofactor_36 (by decide) ?_
  refine lv_iadd hx hb dX0_cofactor_37 ?_
  refine fr_callLV (As := [.int (q1 + 2), .int (q2 + 1)]) (rest := [.long (f_X0_entry xmx (q1 + 1) (q2 + 2)), .long ((f_X0_entry xmx (q1 + 1) (q2 + 1)) * (f_X0_entry xmx (q1 + 2) (q2 + 2)))]) C w kf_X0_entry mw_19_13 (c_X0_entry l D cI cJ af au afp afm afs aft afq xfs xba xbe xpr xmx xsd xpt xfa xfb (q1 + 2) (q2 + 1)) ⟨Nat.le_of_ble_eq_true rfl, Nat.le_of_ble_eq_true rfl⟩ ⟨Nat.le_refl 0, Nat.le_refl 0⟩ [0, 1, 2, 3, 4, 5] rfl rfl rfl (ws' := [(af, .inr (0, [.ref au, .ref afp, .ref afm, .ref afs, .ref aft, .ref afq, .int xfs, .int xba, .long xbe])), (afp, .inl (cJ, 25, .inr (.inl xpr))), (afm, .inl (cJ, 9, .inr (.inl xmx))), (afs, .inl (cJ, 3, .inr (.inl xsd))), (aft, .inl (cJ, 4, .inr (.inl xpt))), (afq, .inr (1, [.long xfa, .long xfb]))]) rfl rfl rfl rfl hl.1 rfl (Nat.le_of_ble_eq_true rfl) dX0_cofactor_38 (fun H locs w => ?_)
  refine lv_lmul hx hb dX0_cofactor_41 ?_
  refine lv_lsub hx hb dX0_cofactor_42 ?_
  subst hr hQ
  exact fr_lret C hret hlk w rfl rfl dX0_cofactor_43
def L_X0_determinant_4 (xmx : Nat → Int64) : Nat → Int64 → Int32 → Int64 × Int32
  | 0, _, _ => (0, 0)
  | n4 + 1, i1, i2 => (if 3 ≤ i2 then (i1, i2) else L_X0_determinant_4 xmx n4 (i1 + ((xmx (Int32.toNatClampNeg i2)) * (f_X0_cofactor xmx 0 i2))) (i2 + 1))
def f_X0_determinant (xmx : Nat → Int64) : Int64 := ((fun (y4 : Int64 × Int32) => y4.1) (L_X0_determinant_4 xmx 4 0 0))
set_option maxRecDepth 100000 in
set_option maxHeartbeats 4000000 in
theorem c_X0_determinant (l : Launch) (D : va_G) (cI cJ : ClassId) (af au afp afm afs aft afq : Nat) (xfs : Int32) (xba : Int32) (xbe : Int64) (xpr : Nat → Int64) (xmx : Nat → Int64) (xsd : Nat → Int64) (xpt : Nat → Int64) (xfa : Int64) (xfb : Int64)  : CL l yX0_determinant cX0_determinant 4 2 D cI cJ [.ref af] [(af, .inr (0, [.ref au, .ref afp, .ref afm, .ref afs, .ref aft, .ref afq, .int xfs, .int xba, .long xbe])), (afp, .inl (cJ, 25, .inr (.inl xpr))), (afm, .inl (cJ, 9, .inr (.inl xmx))), (afs, .inl (cJ, 3, .inr (.inl xsd))), (aft, .inl (cJ, 4, .inr (.inl xpt))), (afq, .inr (1, [.long xfa, .long xfb]))] [(af, .inr (0, [.ref au, .ref afp, .ref afm, .ref afs, .ref aft, .ref afq, .int xfs, .int xba, .long xbe])), (afp, .inl (cJ, 25, .inr (.inl xpr))), (afm, .inl (cJ, 9, .inr (.inl xmx))), (afs, .inl (cJ, 3, .inr (.inl xsd))), (aft, .inl (cJ, 4, .inr (.inl xpt))), (afq, .inr (1, [.long xfa, .long xfb]))] (f_X0_determinant xmx) := by
  generalize hr : f_X0_determinant xmx = r
  refine fr_entryL (by decide) rfl ?_
  intro p e s m args below meth c A Q H locs hQ C hret hlk w ls hl
  have hx := C.1
  have hb := C.2.1
  have hl : lv_has ls 4 [(0, .ref af)] := hl
  have hr : ((fun (y4 : Int64 × Int32) => y4.1) (L_X0_determinant_4 xmx 4 0 0)) = r := hr
  refine lv_lconst (v := 0) hx hb dX0_determinant_0 (by decide) ?_
  refine lv_lstore_n (lv' := [(1, .long 0), (0, .ref af)]) hx hb dX0_determinant_1 rfl hl (by decide) rfl (fun ls hl => ?_)
  refine lv_iconst (v := 0) hx hb dX0_determinant_2 (by decide) ?_
  refine lv_istore_n (lv' := [(3, .int 0), (1, .long 0), (0, .ref af)]) hx hb dX0_determinant_3 rfl hl (by decide) rfl (fun ls hl => ?_)
  obtain ⟨y4, hy4⟩ : ∃ y, y = L_X0_determinant_4 xmx 4 0 0 := ⟨_, rfl⟩
  have hr : y4.1 = r := by rw [hy4]; exact hr
  have X4 : ∀ (H : Heap) (locs : List Loc), Wd D A s.heap H locs [(af, .inr (0, [.ref au, .ref afp, .ref afm, .ref afs, .ref aft, .ref afq, .int xfs, .int xba, .long xbe])), (afp, .inl (cJ, 25, .inr (.inl xpr))), (afm, .inl (cJ, 9, .inr (.inl xmx))), (afs, .inl (cJ, 3, .inr (.inl xsd))), (aft, .inl (cJ, 4, .inr (.inl xpt))), (afq, .inr (1, [.long xfa, .long xfb]))] → ∀ (ls : Array Slot), lv_has ls 4 [(0, .ref af), (1, .long y4.1), (3, .int y4.2)] → W p l e (rl 2) s m args below meth c H locs 0 0 Q (F0 m 31 ls []) := by
    intro H locs w ls hl
    refine lv_lload_n hx hb dX0_determinant_31 rfl (lv_at hl 1 rfl) ?_
    subst hr hQ
    exact fr_lret C hret hlk w rfl rfl dX0_determinant_32
  have LP4 : ∀ (n4 : Nat) (k4 : Nat) (i1 : Int64) (i2 : Int32), i2 = nI k4 → k4 ≤ 3 → 3 < k4 + n4 → L_X0_determinant_4 xmx n4 i1 i2 = y4 → ∀ (H : Heap) (locs : List Loc), Wd D A s.heap H locs [(af, .inr (0, [.ref au, .ref afp, .ref afm, .ref afs, .ref aft, .ref afq, .int xfs, .int xba, .long xbe])), (afp, .inl (cJ, 25, .inr (.inl xpr))), (afm, .inl (cJ, 9, .inr (.inl xmx))), (afs, .inl (cJ, 3, .inr (.inl xsd))), (aft, .inl (cJ, 4, .inr (.inl xpt))), (afq, .inr (1, [.long xfa, .long xfb]))] → ∀ (ls : Array Slot), lv_has ls 4 [(0, .ref af), (1, .long i1), (3, .int i2)] → W p l e (rl 2) s m args below meth c H locs 0 0 Q (F0 m 4 ls []) := by
    clear hr
    intro n4
    induction n4 with
    | zero => intro k4 i1 i2 hk4 hkN4 hn4; exact absurd hn4 (by omega)
    | succ n4 ih4 =>
      intro k4 i1 i2 hk4 hkN4 hn4 hr H locs w ls hl
      have hr : (if 3 ≤ i2 then (i1, i2) else L_X0_determinant_4 xmx n4 (i1 + ((xmx (Int32.toNatClampNeg i2)) * (f_X0_cofactor xmx 0 i2))) (i2 + 1)) = y4 := hr
      refine lv_iload_n hx hb dX0_determinant_4 rfl (lv_at hl 2 rfl) ?_
      refine lv_iconst (v := 3) hx hb dX0_determinant_5 (by decide) ?_
      refine lv_icmp_ge (tgt := 31) hx hb dX0_determinant_6 (by decide) (fun c6_3 => ?_) (fun c6_3 => ?_)
      · have hr := (if_pos c6_3).symm.trans hr
        subst hr
        exact X4 H locs w ls (lv_sub hl [0, 1, 2] rfl)
      · have hr := (if_neg c6_3).symm.trans hr
        have hkl4 := kl_of hk4 hkN4 (N := 3) (by decide) (by omega) c6_3
        refine lv_lload_n hx hb dX0_determinant_9 rfl (lv_at hl 1 rfl) ?_
        refine lv_aload_n hx hb dX0_determinant_10 rfl (lv_at hl 0 rfl) ?_
        refine fr_get C w fg_X0_19 0 rfl rfl dX0_determinant_11 ?_
        refine lv_iload_n hx hb dX0_determinant_14 rfl (lv_at hl 2 rfl) ?_
        refine fr_lald C w 2 rfl (vi_ctr hk4 hkl4 (by decide) (by decide)) dX0_determinant_15 ?_
        refine lv_aload_n hx hb dX0_determinant_16 rfl (lv_at hl 0 rfl) ?_
        refine lv_iconst (v := 0) hx hb dX0_determinant_17 (by decide) ?_
        refine lv_iload_n hx hb dX0_determinant_18 rfl (lv_at hl 2 rfl) ?_
        refine fr_callLV (As := [.int 0, .int i2]) (rest := [.long (xmx (Int32.toNatClampNeg i2)), .long i1]) C w kf_X0_cofactor mw_19_9 (c_X0_cofactor l D cI cJ af au afp afm afs aft afq xfs xba xbe xpr xmx xsd xpt xfa xfb 0 i2) ⟨Nat.le_of_ble_eq_true rfl, Nat.le_of_ble_eq_true rfl⟩ ⟨Nat.le_refl 0, Nat.le_refl 0⟩ [0, 1, 2, 3, 4, 5] rfl rfl rfl (ws' := [(af, .inr (0, [.ref au, .ref afp, .ref afm, .ref afs, .ref aft, .ref afq, .int xfs, .int xba, .long xbe])), (afp, .inl (cJ, 25, .inr (.inl xpr))), (afm, .inl (cJ, 9, .inr (.inl xmx))), (afs, .inl (cJ, 3, .inr (.inl xsd))), (aft, .inl (cJ, 4, .inr (.inl xpt))), (afq, .inr (1, [.long xfa, .long xfb]))]) rfl rfl rfl rfl hl.1 rfl (Nat.le_of_ble_eq_true rfl) dX0_determinant_19 (fun H locs w => ?_)
        refine lv_lmul hx hb dX0_determinant_22 ?_
        refine lv_ladd hx hb dX0_determinant_23 ?_
        refine lv_lstore_n (lv' := [(1, .long (i1 + ((xmx (Int32.toNatClampNeg i2)) * (f_X0_cofactor xmx 0 i2)))), (0, .ref af), (3, .int i2)]) hx hb dX0_determinant_24 rfl hl (by decide) rfl (fun ls hl => ?_)
        refine lv_iinc (v := i2 + 1) (lv' := [(3, .int (i2 + 1)), (1, .long (i1 + ((xmx (Int32.toNatClampNeg i2)) * (f_X0_cofactor xmx 0 i2)))), (0, .ref af)]) hx hb dX0_determinant_25 hl (k := 2) rfl rfl (by decide) rfl (fun ls hl => ?_)
        refine lv_goto (tgt := 4) hx hb dX0_determinant_28 (by decide) ?_
        exact ih4 (k4 + 1) (i1 + ((xmx (Int32.toNatClampNeg i2)) * (f_X0_cofactor xmx 0 i2))) (i2 + 1) (by rw [hk4]; exact nI_1 k4) (by omega) (by omega) hr H locs w ls (lv_sub hl [2, 1, 0] rfl)
  exact LP4 4 0 0 0 (by decide) (by omega) (by omega) hy4.symm H locs w ls (lv_sub hl [2, 1, 0] rfl)
def f_X0_putPart (xpt : Nat → Int64) (q1 : Int32) (q2 : Int64) : (Nat → Int64) := (if q1 < 0 then xpt else (if 4 ≤ q1 then xpt else vp_updL xpt (Int32.toNatClampNeg q1) q2))
set_option maxRecDepth 100000 in
set_option maxHeartbeats 4000000 in
theorem c_X0_putPart (l : Launch) (D : va_G) (cI cJ : ClassId) (af au afp afm afs aft afq : Nat) (xfs : Int32) (xba : Int32) (xbe : Int64) (xpr : Nat → Int64) (xmx : Nat → Int64) (xsd : Nat → Int64) (xpt : Nat → Int64) (xfa : Int64) (xfb : Int64) (q1 : Int32) (q2 : Int64) : CV l yX0_putPart cX0_putPart 4 0 D cI cJ [.ref af, .int q1, .long q2] [(af, .inr (0, [.ref au, .ref afp, .ref afm, .ref afs, .ref aft, .ref afq, .int xfs, .int xba, .long xbe])), (afp, .inl (cJ, 25, .inr (.inl xpr))), (afm, .inl (cJ, 9, .inr (.inl xmx))), (afs, .inl (cJ, 3, .inr (.inl xsd))), (aft, .inl (cJ, 4, .inr (.inl xpt))), (afq, .inr (1, [.long xfa, .long xfb]))] [(af, .inr (0, [.ref au, .ref afp, .ref afm, .ref afs, .ref aft, .ref afq, .int xfs, .int xba, .long xbe])), (afp, .inl (cJ, 25, .inr (.inl xpr))), (afm, .inl (cJ, 9, .inr (.inl xmx))), (afs, .inl (cJ, 3, .inr (.inl xsd))), (aft, .inl (cJ, 4, .inr (.inl (f_X0_putPart xpt q1 q2)))), (afq, .inr (1, [.long xfa, .long xfb]))] := by
  generalize hr : f_X0_putPart xpt q1 q2 = r
  refine fr_entryV (by decide) rfl ?_
  intro p e s m args below meth c A Q H locs hQ C hret hlk w ls hl
  have hx := C.1
  have hb := C.2.1
  have hl : lv_has ls 4 [(0, .ref af), (1, .int q1), (2, .long q2)] := hl
  have hr : (if q1 < 0 then xpt else (if 4 ≤ q1 then xpt else vp_updL xpt (Int32.toNatClampNeg q1) q2)) = r := hr
  refine lv_iload_n hx hb dX0_putPart_0 rfl (lv_at hl 1 rfl) ?_
  refine lv_if_lt (tgt := 16) hx hb dX0_putPart_1 (by decide) (fun c1_1 => ?_) (fun c1_1 => ?_)
  · have hr := (if_pos c1_1).symm.trans hr
    subst hr hQ
    exact fr_vret C hret hlk w rfl dX0_putPart_16
  · have hr := (if_neg c1_1).symm.trans hr
    refine lv_iload_n hx hb dX0_putPart_4 rfl (lv_at hl 1 rfl) ?_
    refine lv_iconst (v := 4) hx hb dX0_putPart_5 (by decide) ?_
    refine lv_icmp_ge (tgt := 16) hx hb dX0_putPart_6 (by decide) (fun c6_2 => ?_) (fun c6_2 => ?_)
    · have hr := (if_pos c6_2).symm.trans hr
      subst hr hQ
      exact fr_vret C hret hlk w rfl dX0_putPart_16
    · have hr := (if_neg c6_2).symm.trans hr
      refine lv_aload_n hx hb dX0_putPart_9 rfl (lv_at hl 0 rfl) ?_
      refine fr_get C w fg_X0_25 0 rfl rfl dX0_putPart_10 ?_
      refine lv_iload_n hx hb dX0_putPart_13 rfl (lv_at hl 1 rfl) ?_
      refine lv_lload_n hx hb dX0_putPart_14 rfl (lv_at hl 2 rfl) ?_
      refine fr_last C w 4 rfl (vi_guard (by assumption) (by assumption) (by decide)) (ws' := [(af, .inr (0, [.ref au, .ref afp, .ref afm, .ref afs, .ref aft, .ref afq, .int xfs, .int xba, .long xbe])), (afp, .inl (cJ, 25, .inr (.inl xpr))), (afm, .inl (cJ, 9, .inr (.inl xmx))), (afs, .inl (cJ, 3, .inr (.inl xsd))), (aft, .inl (cJ, 4, .inr (.inl (vp_updL xpt (Int32.toNatClampNeg q1) q2)))), (afq, .inr (1, [.long xfa, .long xfb]))]) rfl dX0_putPart_15 (fun H locs w => ?_)
      subst hr hQ
      exact fr_vret C hret hlk w rfl dX0_putPart_16
def L_X0_isGood_2 (xfs : Int32) (xbe : Int64) (xpt : Nat → Int64) : Nat → Int32 → Int32
  | 0, _ => 0
  | n2 + 1, i1 => (if 4 ≤ i1 then (f_X0_isOnly xbe) else (if (f_X6_isIn xfs i1) = 0 then L_X0_isGood_2 xfs xbe xpt n2 (i1 + 1) else (if 0 < (xpt (Int32.toNatClampNeg i1)) then L_X0_isGood_2 xfs xbe xpt n2 (i1 + 1) else 0)))
def f_X0_isGood (xfs : Int32) (xbe : Int64) (xpt : Nat → Int64) : Int32 := L_X0_isGood_2 xfs xbe xpt 5 0
set_option maxRecDepth 100000 in
set_option maxHeartbeats 4000000 in
theorem c_X0_isGood (l : Launch) (D : va_G) (cI cJ : ClassId) (af au afp afm afs aft afq : Nat) (xfs : Int32) (xba : Int32) (xbe : Int64) (xpr : Nat → Int64) (xmx : Nat → Int64) (xsd : Nat → Int64) (xpt : Nat → Int64) (xfa : Int64) (xfb : Int64)  : CI l yX0_isGood cX0_isGood 2 .boolean 1 D cI cJ [.ref af] [(af, .inr (0, [.ref au, .ref afp, .ref afm, .ref afs, .ref aft, .ref afq, .int xfs, .int xba, .long xbe])), (afp, .inl (cJ, 25, .inr (.inl xpr))), (afm, .inl (cJ, 9, .inr (.inl xmx))), (afs, .inl (cJ, 3, .inr (.inl xsd))), (aft, .inl (cJ, 4, .inr (.inl xpt))), (afq, .inr (1, [.long xfa, .long xfb]))] [(af, .inr (0, [.ref au, .ref afp, .ref afm, .ref afs, .ref aft, .ref afq, .int xfs, .int xba, .long xbe])), (afp, .inl (cJ, 25, .inr (.inl xpr))), (afm, .inl (cJ, 9, .inr (.inl xmx))), (afs, .inl (cJ, 3, .inr (.inl xsd))), (aft, .inl (cJ, 4, .inr (.inl xpt))), (afq, .inr (1, [.long xfa, .long xfb]))] (f_X0_isGood xfs xbe xpt) := by
  generalize hr : f_X0_isGood xfs xbe xpt = r
  refine fr_entryI (by decide) rfl ?_
  intro p e s m args below meth c A Q H locs hQ C hret hlk w ls hl
  have hx := C.1
  have hb := C.2.1
  have hl : lv_has ls 2 [(0, .ref af)] := hl
  have hr : L_X0_isGood_2 xfs xbe xpt 5 0 = r := hr
  refine lv_iconst (v := 0) hx hb dX0_isGood_0 (by decide) ?_
  refine lv_istore_n (lv' := [(1, .int 0), (0, .ref af)]) hx hb dX0_isGood_1 rfl hl (by decide) rfl (fun ls hl => ?_)
  have LP2 : ∀ (n2 : Nat) (k2 : Nat) (i1 : Int32), i1 = nI k2 → k2 ≤ 4 → 4 < k2 + n2 → L_X0_isGood_2 xfs xbe xpt n2 i1 = r → ∀ (H : Heap) (locs : List Loc), Wd D A s.heap H locs [(af, .inr (0, [.ref au, .ref afp, .ref afm, .ref afs, .ref aft, .ref afq, .int xfs, .int xba, .long xbe])), (afp, .inl (cJ, 25, .inr (.inl xpr))), (afm, .inl (cJ, 9, .inr (.inl xmx))), (afs, .inl (cJ, 3, .inr (.inl xsd))), (aft, .inl (cJ, 4, .inr (.inl xpt))), (afq, .inr (1, [.long xfa, .long xfb]))] → ∀ (ls : Array Slot), lv_has ls 2 [(0, .ref af), (1, .int i1)] → W p l e (rl 1) s m args below meth c H locs 0 0 Q (F0 m 2 ls []) := by
    skip
    intro n2
    induction n2 with
    | zero => intro k2 i1 hk2 hkN2 hn2; exact absurd hn2 (by omega)
    | succ n2 ih2 =>
      intro k2 i1 hk2 hkN2 hn2 hr H locs w ls hl
      have hr : (if 4 ≤ i1 then (f_X0_isOnly xbe) else (if (f_X6_isIn xfs i1) = 0 then L_X0_isGood_2 xfs xbe xpt n2 (i1 + 1) else (if 0 < (xpt (Int32.toNatClampNeg i1)) then L_X0_isGood_2 xfs xbe xpt n2 (i1 + 1) else 0))) = r := hr
      refine lv_iload_n hx hb dX0_isGood_2 rfl (lv_at hl 1 rfl) ?_
      refine lv_iconst (v := 4) hx hb dX0_isGood_3 (by decide) ?_
      refine lv_icmp_ge (tgt := 37) hx hb dX0_isGood_4 (by decide) (fun c4_2 => ?_) (fun c4_2 => ?_)
      · have hr := (if_pos c4_2).symm.trans hr
        refine lv_aload_n hx hb dX0_isGood_37 rfl (lv_at hl 0 rfl) ?_
        refine fr_callIV (As := []) (rest := []) C w kf_X0_isOnly mw_21_0 (c_X0_isOnly l D cI cJ af au afp afm afs aft afq xfs xba xbe xpr xmx xsd xpt xfa xfb) ⟨Nat.le_of_ble_eq_true rfl, Nat.le_of_ble_eq_true rfl⟩ ⟨Nat.le_refl 0, Nat.le_refl 0⟩ [0, 1, 2, 3, 4, 5] rfl rfl rfl (ws' := [(af, .inr (0, [.ref au, .ref afp, .ref afm, .ref afs, .ref aft, .ref afq, .int xfs, .int xba, .long xbe])), (afp, .inl (cJ, 25, .inr (.inl xpr))), (afm, .inl (cJ, 9, .inr (.inl xmx))), (afs, .inl (cJ, 3, .inr (.inl xsd))), (aft, .inl (cJ, 4, .inr (.inl xpt))), (afq, .inr (1, [.long xfa, .long xfb]))]) rfl rfl rfl rfl hl.1 rfl (Nat.le_of_ble_eq_true rfl) dX0_isGood_38 (fun H locs w => ?_)
        subst hr hQ
        exact fr_iret (W0 := []) C hret hlk w (nb_of (b_X0_isOnly xbe)) rfl rfl dX0_isGood_41
      · have hr := (if_neg c4_2).symm.trans hr
        have hkl2 := kl_of hk2 hkN2 (N := 4) (by decide) (by omega) c4_2
        refine lv_aload_n hx hb dX0_isGood_7 rfl (lv_at hl 0 rfl) ?_
        refine fr_get C w fg_X0_41 0 rfl rfl dX0_isGood_8 ?_
        refine lv_iload_n hx hb dX0_isGood_11 rfl (lv_at hl 1 rfl) ?_
        refine fr_callIN (As := [.int xfs, .int i1]) (rest := []) C w kf_X6_isIn C.2.2.2.2.2.2.2 (c_X6_isIn l D cI cJ xfs i1) ⟨Nat.le_of_ble_eq_true rfl, Nat.le_of_ble_eq_true rfl⟩ ⟨Nat.le_refl 0, Nat.le_refl 0⟩ [] rfl rfl rfl (ws' := [(af, .inr (0, [.ref au, .ref afp, .ref afm, .ref afs, .ref aft, .ref afq, .int xfs, .int xba, .long xbe])), (afp, .inl (cJ, 25, .inr (.inl xpr))), (afm, .inl (cJ, 9, .inr (.inl xmx))), (afs, .inl (cJ, 3, .inr (.inl xsd))), (aft, .inl (cJ, 4, .inr (.inl xpt))), (afq, .inr (1, [.long xfa, .long xfb]))]) rfl rfl hl.1 rfl (Nat.le_of_ble_eq_true rfl) dX0_isGood_12 (fun H locs w => ?_)
        refine lv_if_eq (tgt := 31) hx hb dX0_isGood_15 (by decide) (fun c15_3 => ?_) (fun c15_3 => ?_)
        · have hr := (if_pos c15_3).symm.trans hr
          refine lv_iinc (v := i1 + 1) (lv' := [(1, .int (i1 + 1)), (0, .ref af)]) hx hb dX0_isGood_31 hl (k := 1) rfl rfl (by decide) rfl (fun ls hl => ?_)
          refine lv_goto (tgt := 2) hx hb dX0_isGood_34 (by decide) ?_
          exact ih2 (k2 + 1) (i1 + 1) (by rw [hk2]; exact nI_1 k2) (by omega) (by omega) hr H locs w ls (lv_sub hl [1, 0] rfl)
        · have hr := (if_neg c15_3).symm.trans hr
          refine lv_aload_n hx hb dX0_isGood_18 rfl (lv_at hl 0 rfl) ?_
          refine fr_get C w fg_X0_25 0 rfl rfl dX0_isGood_19 ?_
          refine lv_iload_n hx hb dX0_isGood_22 rfl (lv_at hl 1 rfl) ?_
          refine fr_lald C w 4 rfl (vi_ctr hk2 hkl2 (by decide) (by decide)) dX0_isGood_23 ?_
          refine lv_lconst (v := 0) hx hb dX0_isGood_24 (by decide) ?_
          refine fr_lgt (tgt := 31) hx hb dX0_isGood_25 dX0_isGood_26 (by decide) (fun c26_4 => ?_) (fun c26_4 => ?_)
          · have hr := (if_pos c26_4).symm.trans hr
            refine lv_iinc (v := i1 + 1) (lv' := [(1, .int (i1 + 1)), (0, .ref af)]) hx hb dX0_isGood_31 hl (k := 1) rfl rfl (by decide) rfl (fun ls hl => ?_)
            refine lv_goto (tgt := 2) hx hb dX0_isGood_34 (by decide) ?_
            exact ih2 (k2 + 1) (i1 + 1) (by rw [hk2]; exact nI_1 k2) (by omega) (by omega) hr H locs w ls (lv_sub hl [1, 0] rfl)
          · have hr := (if_neg c26_4).symm.trans hr
            refine lv_iconst (v := 0) hx hb dX0_isGood_29 (by decide) ?_
            subst hr hQ
            exact fr_iret (W0 := []) C hret hlk w rfl rfl rfl dX0_isGood_30
  exact LP2 5 0 0 (by decide) (by omega) (by omega) hr H locs w ls (lv_sub hl [1, 0] rfl)
def L_X0_pressAbove_16 (xba : Int32) (xpr : Nat → Int64) (xpt : Nat → Int64) (q1 : Int32) : Nat → Int64 → Int32 → Int64 × Int32
  | 0, _, _ => (0, 0)
  | n16 + 1, i1, i2 => (if 4 ≤ i2 then (i1, i2) else L_X0_pressAbove_16 xba xpr xpt q1 n16 (i1 + ((xpt (Int32.toNatClampNeg i2)) * (f_X0_fromBase xba xpr q1 i2))) (i2 + 1))
def f_X0_pressAbove (xba : Int32) (xbe : Int64) (xpr : Nat → Int64) (xpt : Nat → Int64) (q1 : Int32) : Int64 := ((fun (y16 : Int64 × Int32) => y16.1) (L_X0_pressAbove_16 xba xpr xpt q1 5 ((-xbe) * (f_X0_fromBase xba xpr q1 4)) 0))
set_option maxRecDepth 100000 in
set_option maxHeartbeats 4000000 in
theorem c_X0_pressAbove (l : Launch) (D : va_G) (cI cJ : ClassId) (af au afp afm afs aft afq : Nat) (xfs : Int32) (xba : Int32) (xbe : Int64) (xpr : Nat → Int64) (xmx : Nat → Int64) (xsd : Nat → Int64) (xpt : Nat → Int64) (xfa : Int64) (xfb : Int64) (q1 : Int32) : CL l yX0_pressAbove cX0_pressAbove 5 2 D cI cJ [.ref af, .int q1] [(af, .inr (0, [.ref au, .ref afp, .ref afm, .ref afs, .ref aft, .ref afq, .int xfs, .int xba, .long xbe])), (afp, .inl (cJ, 25, .inr (.inl xpr))), (afm, .inl (cJ, 9, .inr (.inl xmx))), (afs, .inl (cJ, 3, .inr (.inl xsd))), (aft, .inl (cJ, 4, .inr (.inl xpt))), (afq, .inr (1, [.long xfa, .long xfb]))] [(af, .inr (0, [.ref au, .ref afp, .ref afm, .ref afs, .ref aft, .ref afq, .int xfs, .int xba, .long xbe])), (afp, .inl (cJ, 25, .inr (.inl xpr))), (afm, .inl (cJ, 9, .inr (.inl xmx))), (afs, .inl (cJ, 3, .inr (.inl xsd))), (aft, .inl (cJ, 4, .inr (.inl xpt))), (afq, .inr (1, [.long xfa, .long xfb]))] (f_X0_pressAbove xba xbe xpr xpt q1) := by
  generalize hr : f_X0_pressAbove xba xbe xpr xpt q1 = r
  refine fr_entryL (by decide) rfl ?_
  intro p e s m args below meth c A Q H locs hQ C hret hlk w ls hl
  have hx := C.1
  have hb := C.2.1
  have hl : lv_has ls 5 [(0, .ref af), (1, .int q1)] := hl
  have hr : ((fun (y16 : Int64 × Int32) => y16.1) (L_X0_pressAbove_16 xba xpr xpt q1 5 ((-xbe) * (f_X0_fromBase xba xpr q1 4)) 0)) = r := hr
  refine lv_aload_n hx hb dX0_pressAbove_0 rfl (lv_at hl 0 rfl) ?_
  refine fr_get C w fg_X0_59 0 rfl rfl dX0_pressAbove_1 ?_
  refine lv_lneg hx hb dX0_pressAbove_4 ?_
  refine lv_aload_n hx hb dX0_pressAbove_5 rfl (lv_at hl 0 rfl) ?_
  refine lv_iload_n hx hb dX0_pressAbove_6 rfl (lv_at hl 1 rfl) ?_
  refine lv_iconst (v := 4) hx hb dX0_pressAbove_7 (by decide) ?_
  refine fr_callLV (As := [.int q1, .int 4]) (rest := [.long (-xbe)]) C w kf_X0_fromBase mw_18_21 (c_X0_fromBase l D cI cJ af au afp afm afs aft afq xfs xba xbe xpr xmx xsd xpt xfa xfb q1 4) ⟨Nat.le_of_ble_eq_true rfl, Nat.le_of_ble_eq_true rfl⟩ ⟨Nat.le_refl 0, Nat.le_refl 0⟩ [0, 1, 2, 3, 4, 5] rfl rfl rfl (ws' := [(af, .inr (0, [.ref au, .ref afp, .ref afm, .ref afs, .ref aft, .ref afq, .int xfs, .int xba, .long xbe])), (afp, .inl (cJ, 25, .inr (.inl xpr))), (afm, .inl (cJ, 9, .inr (.inl xmx))), (afs, .inl (cJ, 3, .inr (.inl xsd))), (aft, .inl (cJ, 4, .inr (.inl xpt))), (afq, .inr (1, [.long xfa, .long xfb]))]) rfl rfl rfl rfl hl.1 rfl (Nat.le_of_ble_eq_true rfl) dX0_pressAbove_8 (fun H locs w => ?_)
  refine lv_lmul hx hb dX0_pressAbove_11 ?_
  refine lv_lstore_n (lv' := [(2, .long ((-xbe) * (f_X0_fromBase xba xpr q1 4))), (0, .ref af), (1, .int q1)]) hx hb dX0_pressAbove_12 rfl hl (by decide) rfl (fun ls hl => ?_)
  refine lv_iconst (v := 0) hx hb dX0_pressAbove_13 (by decide) ?_
  refine lv_istore (lv' := [(4, .int 0), (2, .long ((-xbe) * (f_X0_fromBase xba xpr q1 4))), (0, .ref af), (1, .int q1)]) hx hb dX0_pressAbove_14 hl (by decide) rfl (fun ls hl => ?_)
  obtain ⟨y16, hy16⟩ : ∃ y, y = L_X0_pressAbove_16 xba xpr xpt q1 5 ((-xbe) * (f_X0_fromBase xba xpr q1 4)) 0 := ⟨_, rfl⟩
  have hr : y16.1 = r := by rw [hy16]; exact hr
  have X16 : ∀ (H : Heap) (locs : List Loc), Wd D A s.heap H locs [(af, .inr (0, [.ref au, .ref afp, .ref afm, .ref afs, .ref aft, .ref afq, .int xfs, .int xba, .long xbe])), (afp, .inl (cJ, 25, .inr (.inl xpr))), (afm, .inl (cJ, 9, .inr (.inl xmx))), (afs, .inl (cJ, 3, .inr (.inl xsd))), (aft, .inl (cJ, 4, .inr (.inl xpt))), (afq, .inr (1, [.long xfa, .long xfb]))] → ∀ (ls : Array Slot), lv_has ls 5 [(0, .ref af), (1, .int q1), (2, .long y16.1), (4, .int y16.2)] → W p l e (rl 2) s m args below meth c H locs 0 0 Q (F0 m 46 ls []) := by
    intro H locs w ls hl
    refine lv_lload_n hx hb dX0_pressAbove_46 rfl (lv_at hl 2 rfl) ?_
    subst hr hQ
    exact fr_lret C hret hlk w rfl rfl dX0_pressAbove_47
  have LP16 : ∀ (n16 : Nat) (k16 : Nat) (i1 : Int64) (i2 : Int32), i2 = nI k16 → k16 ≤ 4 → 4 < k16 + n16 → L_X0_pressAbove_16 xba xpr xpt q1 n16 i1 i2 = y16 → ∀ (H : Heap) (locs : List Loc), Wd D A s.heap H locs [(af, .inr (0, [.ref au, .ref afp, .ref afm, .ref afs, .ref aft, .ref afq, .int xfs, .int xba, .long xbe])), (afp, .inl (cJ, 25, .inr (.inl xpr))), (afm, .inl (cJ, 9, .inr (.inl xmx))), (afs, .inl (cJ, 3, .inr (.inl xsd))), (aft, .inl (cJ, 4, .inr (.inl xpt))), (afq, .inr (1, [.long xfa, .long xfb]))] → ∀ (ls : Array Slot), lv_has ls 5 [(0, .ref af), (1, .int q1), (2, .long i1), (4, .int i2)] → W p l e (rl 2) s m args below meth c H locs 0 0 Q (F0 m 16 ls []) := by
    clear hr
    intro n16
    induction n16 with
    | zero => intro k16 i1 i2 hk16 hkN16 hn16; exact absurd hn16 (by omega)
    | succ n16 ih16 =>
      intro k16 i1 i2 hk16 hkN16 hn16 hr H locs w ls hl
      have hr : (if 4 ≤ i2 then (i1, i2) else L_X0_pressAbove_16 xba xpr xpt q1 n16 (i1 + ((xpt (Int32.toNatClampNeg i2)) * (f_X0_fromBase xba xpr q1 i2))) (i2 + 1)) = y16 := hr
      refine lv_iload hx hb dX0_pressAbove_16 (lv_at hl 3 rfl) ?_
      refine lv_iconst (v := 4) hx hb dX0_pressAbove_18 (by decide) ?_
      refine lv_icmp_ge (tgt := 46) hx hb dX0_pressAbove_19 (by decide) (fun c19_3 => ?_) (fun c19_3 => ?_)
      · have hr := (if_pos c19_3).symm.trans hr
        subst hr
        exact X16 H locs w ls (lv_sub hl [0, 1, 2, 3] rfl)
      · have hr := (if_neg c19_3).symm.trans hr
        have hkl16 := kl_of hk16 hkN16 (N := 4) (by decide) (by omega) c19_3
        refine lv_lload_n hx hb dX0_pressAbove_22 rfl (lv_at hl 2 rfl) ?_
        refine lv_aload_n hx hb dX0_pressAbove_23 rfl (lv_at hl 0 rfl) ?_
        refine fr_get C w fg_X0_25 0 rfl rfl dX0_pressAbove_24 ?_
        refine lv_iload hx hb dX0_pressAbove_27 (lv_at hl 3 rfl) ?_
        refine fr_lald C w 4 rfl (vi_ctr hk16 hkl16 (by decide) (by decide)) dX0_pressAbove_29 ?_
        refine lv_aload_n hx hb dX0_pressAbove_30 rfl (lv_at hl 0 rfl) ?_
        refine lv_iload_n hx hb dX0_pressAbove_31 rfl (lv_at hl 1 rfl) ?_
        refine lv_iload hx hb dX0_pressAbove_32 (lv_at hl 3 rfl) ?_
        refine fr_callLV (As := [.int q1, .int i2]) (rest := [.long (xpt (Int32.toNatClampNeg i2)), .long i1]) C w kf_X0_fromBase mw_18_21 (c_X0_fromBase l D cI cJ af au afp afm afs aft afq xfs xba xbe xpr xmx xsd xpt xfa xfb q1 i2) ⟨Nat.le_of_ble_eq_true rfl, Nat.le_of_ble_eq_true rfl⟩ ⟨Nat.le_refl 0, Nat.le_refl 0⟩ [0, 1, 2, 3, 4, 5] rfl rfl rfl (ws' := [(af, .inr (0, [.ref au, .ref afp, .ref afm, .ref afs, .ref aft, .ref afq, .int xfs, .int xba, .long xbe])), (afp, .inl (cJ, 25, .inr (.inl xpr))), (afm, .inl (cJ, 9, .inr (.inl xmx))), (afs, .inl (cJ, 3, .inr (.inl xsd))), (aft, .inl (cJ, 4, .inr (.inl xpt))), (afq, .inr (1, [.long xfa, .long xfb]))]) rfl rfl rfl rfl hl.1 rfl (Nat.le_of_ble_eq_true rfl) dX0_pressAbove_34 (fun H locs w => ?_)
        refine lv_lmul hx hb dX0_pressAbove_37 ?_
        refine lv_ladd hx hb dX0_pressAbove_38 ?_
        refine lv_lstore_n (lv' := [(2, .long (i1 + ((xpt (Int32.toNatClampNeg i2)) * (f_X0_fromBase xba xpr q1 i2)))), (0, .ref af), (1, .int q1), (4, .int i2)]) hx hb dX0_pressAbove_39 rfl hl (by decide) rfl (fun ls hl => ?_)
        refine lv_iinc (v := i2 + 1) (lv' := [(4, .int (i2 + 1)), (2, .long (i1 + ((xpt (Int32.toNatClampNeg i2)) * (f_X0_fromBase xba xpr q1 i2)))), (0, .ref af), (1, .int q1)]) hx hb dX0_pressAbove_40 hl (k := 3) rfl rfl (by decide) rfl (fun ls hl => ?_)
        refine lv_goto (tgt := 16) hx hb dX0_pressAbove_43 (by decide) ?_
        exact ih16 (k16 + 1) (i1 + ((xpt (Int32.toNatClampNeg i2)) * (f_X0_fromBase xba xpr q1 i2))) (i2 + 1) (by rw [hk16]; exact nI_1 k16) (by omega) (by omega) hr H locs w ls (lv_sub hl [2, 3, 1, 0] rfl)
  exact LP16 5 0 ((-xbe) * (f_X0_fromBase xba xpr q1 4)) 0 (by decide) (by omega) (by omega) hy16.symm H locs w ls (lv_sub hl [2, 3, 1, 0] rfl)
def L_X0_mixedAbove_5 (xpt : Nat → Int64) (xhd : Nat → Int32) (q1 : Int32) : Nat → Int64 → Int32 → Int64 × Int32
  | 0, _, _ => (0, 0)
  | n5 + 1, i1, i2 => (if 4 ≤ i2 then (i1, i2) else L_X0_mixedAbove_5 xpt xhd q1 n5 (i1 + ((xpt (Int32.toNatClampNeg i2)) * (Int32.toInt64 (f_X2_heldOf xhd i2 q1)))) (i2 + 1))
def f_X0_mixedAbove (xpt : Nat → Int64) (xhd : Nat → Int32) (q1 : Int32) : Int64 := ((fun (y5 : Int64 × Int32) => y5.1) (L_X0_mixedAbove_5 xpt xhd q1 5 0 0))
set_option maxRecDepth 100000 in
set_option maxHeartbeats 4000000 in
theorem c_X0_mixedAbove (l : Launch) (D : va_G) (cI cJ : ClassId) (af au afp afm afs aft afq auh auw : Nat) (xfs : Int32) (xba : Int32) (xbe : Int64) (xpr : Nat → Int64) (xmx : Nat → Int64) (xsd : Nat → Int64) (xpt : Nat → Int64) (xfa : Int64) (xfb : Int64) (xsc : Int32) (xtc : Int32) (xhd : Nat → Int32) (xwt : Nat → Int32) (q1 : Int32) : CL l yX0_mixedAbove cX0_mixedAbove 5 2 D cI cJ [.ref af, .int q1] [(af, .inr (0, [.ref au, .ref afp, .ref afm, .ref afs, .ref aft, .ref afq, .int xfs, .int xba, .long xbe])), (afp, .inl (cJ, 25, .inr (.inl xpr))), (afm, .inl (cJ, 9, .inr (.inl xmx))), (afs, .inl (cJ, 3, .inr (.inl xsd))), (aft, .inl (cJ, 4, .inr (.inl xpt))), (afq, .inr (1, [.long xfa, .long xfb])), (au, .inr (2, [.ref auh, .ref auw, .int xsc, .int xtc])), (auh, .inl (cI, 20, .inl xhd)), (auw, .inl (cI, 4, .inl xwt))] [(af, .inr (0, [.ref au, .ref afp, .ref afm, .ref afs, .ref aft, .ref afq, .int xfs, .int xba, .long xbe])), (afp, .inl (cJ, 25, .inr (.inl xpr))), (afm, .inl (cJ, 9, .inr (.inl xmx))), (afs, .inl (cJ, 3, .inr (.inl xsd))), (aft, .inl (cJ, 4, .inr (.inl xpt))), (afq, .inr (1, [.long xfa, .long xfb])), (au, .inr (2, [.ref auh, .ref auw, .int xsc, .int xtc])), (auh, .inl (cI, 20, .inl xhd)), (auw, .inl (cI, 4, .inl xwt))] (f_X0_mixedAbove xpt xhd q1) := by
  generalize hr : f_X0_mixedAbove xpt xhd q1 = r
  refine fr_entryL (by decide) rfl ?_
  intro p e s m args below meth c A Q H locs hQ C hret hlk w ls hl
  have hx := C.1
  have hb := C.2.1
  have hl : lv_has ls 5 [(0, .ref af), (1, .int q1)] := hl
  have hr : ((fun (y5 : Int64 × Int32) => y5.1) (L_X0_mixedAbove_5 xpt xhd q1 5 0 0)) = r := hr
  refine lv_lconst (v := 0) hx hb dX0_mixedAbove_0 (by decide) ?_
  refine lv_lstore_n (lv' := [(2, .long 0), (0, .ref af), (1, .int q1)]) hx hb dX0_mixedAbove_1 rfl hl (by decide) rfl (fun ls hl => ?_)
  refine lv_iconst (v := 0) hx hb dX0_mixedAbove_2 (by decide) ?_
  refine lv_istore (lv' := [(4, .int 0), (2, .long 0), (0, .ref af), (1, .int q1)]) hx hb dX0_mixedAbove_3 hl (by decide) rfl (fun ls hl => ?_)
  obtain ⟨y5, hy5⟩ : ∃ y, y = L_X0_mixedAbove_5 xpt xhd q1 5 0 0 := ⟨_, rfl⟩
  have hr : y5.1 = r := by rw [hy5]; exact hr
  have X5 : ∀ (H : Heap) (locs : List Loc), Wd D A s.heap H locs [(af, .inr (0, [.ref au, .ref afp, .ref afm, .ref afs, .ref aft, .ref afq, .int xfs, .int xba, .long xbe])), (afp, .inl (cJ, 25, .inr (.inl xpr))), (afm, .inl (cJ, 9, .inr (.inl xmx))), (afs, .inl (cJ, 3, .inr (.inl xsd))), (aft, .inl (cJ, 4, .inr (.inl xpt))), (afq, .inr (1, [.long xfa, .long xfb])), (au, .inr (2, [.ref auh, .ref auw, .int xsc, .int xtc])), (auh, .inl (cI, 20, .inl xhd)), (auw, .inl (cI, 4, .inl xwt))] → ∀ (ls : Array Slot), lv_has ls 5 [(0, .ref af), (1, .int q1), (2, .long y5.1), (4, .int y5.2)] → W p l e (rl 2) s m args below meth c H locs 0 0 Q (F0 m 39 ls []) := by
    intro H locs w ls hl
    refine lv_lload_n hx hb dX0_mixedAbove_39 rfl (lv_at hl 2 rfl) ?_
    subst hr hQ
    exact fr_lret C hret hlk w rfl rfl dX0_mixedAbove_40
  have LP5 : ∀ (n5 : Nat) (k5 : Nat) (i1 : Int64) (i2 : Int32), i2 = nI k5 → k5 ≤ 4 → 4 < k5 + n5 → L_X0_mixedAbove_5 xpt xhd q1 n5 i1 i2 = y5 → ∀ (H : Heap) (locs : List Loc), Wd D A s.heap H locs [(af, .inr (0, [.ref au, .ref afp, .ref afm, .ref afs, .ref aft, .ref afq, .int xfs, .int xba, .long xbe])), (afp, .inl (cJ, 25, .inr (.inl xpr))), (afm, .inl (cJ, 9, .inr (.inl xmx))), (afs, .inl (cJ, 3, .inr (.inl xsd))), (aft, .inl (cJ, 4, .inr (.inl xpt))), (afq, .inr (1, [.long xfa, .long xfb])), (au, .inr (2, [.ref auh, .ref auw, .int xsc, .int xtc])), (auh, .inl (cI, 20, .inl xhd)), (auw, .inl (cI, 4, .inl xwt))] → ∀ (ls : Array Slot), lv_has ls 5 [(0, .ref af), (1, .int q1), (2, .long i1), (4, .int i2)] → W p l e (rl 2) s m args below meth c H locs 0 0 Q (F0 m 5 ls []) := by
    clear hr
    intro n5
    induction n5 with
    | zero => intro k5 i1 i2 hk5 hkN5 hn5; exact absurd hn5 (by omega)
    | succ n5 ih5 =>
      intro k5 i1 i2 hk5 hkN5 hn5 hr H locs w ls hl
      have hr : (if 4 ≤ i2 then (i1, i2) else L_X0_mixedAbove_5 xpt xhd q1 n5 (i1 + ((xpt (Int32.toNatClampNeg i2)) * (Int32.toInt64 (f_X2_heldOf xhd i2 q1)))) (i2 + 1)) = y5 := hr
      refine lv_iload hx hb dX0_mixedAbove_5 (lv_at hl 3 rfl) ?_
      refine lv_iconst (v := 4) hx hb dX0_mixedAbove_7 (by decide) ?_
      refine lv_icmp_ge (tgt := 39) hx hb dX0_mixedAbove_8 (by decide) (fun c8_3 => ?_) (fun c8_3 => ?_)
      · have hr := (if_pos c8_3).symm.trans hr
        subst hr
        exact X5 H locs w ls (lv_sub hl [0, 1, 2, 3] rfl)
      · have hr := (if_neg c8_3).symm.trans hr
        have hkl5 := kl_of hk5 hkN5 (N := 4) (by decide) (by omega) c8_3
        refine lv_lload_n hx hb dX0_mixedAbove_11 rfl (lv_at hl 2 rfl) ?_
        refine lv_aload_n hx hb dX0_mixedAbove_12 rfl (lv_at hl 0 rfl) ?_
        refine fr_get C w fg_X0_25 0 rfl rfl dX0_mixedAbove_13 ?_
        refine lv_iload hx hb dX0_mixedAbove_16 (lv_at hl 3 rfl) ?_
        refine fr_lald C w 4 rfl (vi_ctr hk5 hkl5 (by decide) (by decide)) dX0_mixedAbove_18 ?_
        refine lv_aload_n hx hb dX0_mixedAbove_19 rfl (lv_at hl 0 rfl) ?_
        refine fr_get C w fg_X0_9 0 rfl rfl dX0_mixedAbove_20 ?_
        refine lv_iload hx hb dX0_mixedAbove_23 (lv_at hl 3 rfl) ?_
        refine lv_iload_n hx hb dX0_mixedAbove_25 rfl (lv_at hl 1 rfl) ?_
        refine fr_callIV (As := [.int i2, .int q1]) (rest := [.long (xpt (Int32.toNatClampNeg i2)), .long i1]) C w kf_X2_heldOf mw_27_13 (c_X2_heldOf l D cI cJ au auh auw xsc xtc xhd xwt i2 q1) ⟨Nat.le_of_ble_eq_true rfl, Nat.le_of_ble_eq_true rfl⟩ ⟨Nat.le_refl 0, Nat.le_refl 0⟩ [6, 7, 8] rfl rfl rfl (ws' := [(af, .inr (0, [.ref au, .ref afp, .ref afm, .ref afs, .ref aft, .ref afq, .int xfs, .int xba, .long xbe])), (afp, .inl (cJ, 25, .inr (.inl xpr))), (afm, .inl (cJ, 9, .inr (.inl xmx))), (afs, .inl (cJ, 3, .inr (.inl xsd))), (aft, .inl (cJ, 4, .inr (.inl xpt))), (afq, .inr (1, [.long xfa, .long xfb])), (au, .inr (2, [.ref auh, .ref auw, .int xsc, .int xtc])), (auh, .inl (cI, 20, .inl xhd)), (auw, .inl (cI, 4, .inl xwt))]) rfl rfl rfl rfl hl.1 rfl (Nat.le_of_ble_eq_true rfl) dX0_mixedAbove_26 (fun H locs w => ?_)
        refine lv_i2l (v := (Int32.toInt64 (f_X2_heldOf xhd i2 q1))) hx hb dX0_mixedAbove_29 rfl ?_
        refine lv_lmul hx hb dX0_mixedAbove_30 ?_
        refine lv_ladd hx hb dX0_mixedAbove_31 ?_
        refine lv_lstore_n (lv' := [(2, .long (i1 + ((xpt (Int32.toNatClampNeg i2)) * (Int32.toInt64 (f_X2_heldOf xhd i2 q1))))), (0, .ref af), (1, .int q1), (4, .int i2)]) hx hb dX0_mixedAbove_32 rfl hl (by decide) rfl (fun ls hl => ?_)
        refine lv_iinc (v := i2 + 1) (lv' := [(4, .int (i2 + 1)), (2, .long (i1 + ((xpt (Int32.toNatClampNeg i2)) * (Int32.toInt64 (f_X2_heldOf xhd i2 q1))))), (0, .ref af), (1, .int q1)]) hx hb dX0_mixedAbove_33 hl (k := 3) rfl rfl (by decide) rfl (fun ls hl => ?_)
        refine lv_goto (tgt := 5) hx hb dX0_mixedAbove_36 (by decide) ?_
        exact ih5 (k5 + 1) (i1 + ((xpt (Int32.toNatClampNeg i2)) * (Int32.toInt64 (f_X2_heldOf xhd i2 q1)))) (i2 + 1) (by rw [hk5]; exact nI_1 k5) (by omega) (by omega) hr H locs w ls (lv_sub hl [2, 3, 1, 0] rfl)
  exact LP5 5 0 0 0 (by decide) (by omega) (by omega) hy5.symm H locs w ls (lv_sub hl [2, 3, 1, 0] rfl)
end
section
theorem mw_17_18 : Cond.methodLink RX0 35 yX2_product ∈ wsL_law := ck_17 _ (List.mem_of_getElem? (i := 18) rfl)
theorem mw_17_21 : Cond.code yX2_product cX2_product 7 (some .long) ∈ wsL_law := ck_17 _ (List.mem_of_getElem? (i := 21) rfl)
theorem mw_17_19 : Cond.instanceMethod yX2_product ∈ wsL_law := ck_17 _ (List.mem_of_getElem? (i := 19) rfl)
theorem mw_17_20 : Cond.selects RX2 yX2_product yX2_product ∈ wsL_law := ck_17 _ (List.mem_of_getElem? (i := 20) rfl)
theorem mw_18_17 : Cond.methodLink RX0 89 yX0_otherAt ∈ wsL_law := ck_18 _ (List.mem_of_getElem? (i := 17) rfl)
theorem mw_18_20 : Cond.code yX0_otherAt cX0_otherAt 2 (some .int) ∈ wsL_law := ck_18 _ (List.mem_of_getElem? (i := 20) rfl)
theorem mw_18_18 : Cond.instanceMethod yX0_otherAt ∈ wsL_law := ck_18 _ (List.mem_of_getElem? (i := 18) rfl)
theorem mw_18_19 : Cond.selects RX0 yX0_otherAt yX0_otherAt ∈ wsL_law := ck_18 _ (List.mem_of_getElem? (i := 19) rfl)
theorem mw_3_20 : Cond.fieldLink RX0 22 "MudShares$Fit" "side" "[J" ∈ wsL_law := ck_3 _ (List.mem_of_getElem? (i := 20) rfl)
theorem mw_19_21 : Cond.methodLink RX0 95 yX0_putPart ∈ wsL_law := ck_19 _ (List.mem_of_getElem? (i := 21) rfl)
theorem mw_20_0 : Cond.code yX0_putPart cX0_putPart 4 none ∈ wsL_law := ck_20 _ (List.mem_of_getElem? (i := 0) rfl)
theorem mw_19_22 : Cond.instanceMethod yX0_putPart ∈ wsL_law := ck_19 _ (List.mem_of_getElem? (i := 22) rfl)
theorem mw_19_23 : Cond.selects RX0 yX0_putPart yX0_putPart ∈ wsL_law := ck_19 _ (List.mem_of_getElem? (i := 23) rfl)
theorem mw_20_5 : Cond.methodLink RX0 99 yX0_partOf ∈ wsL_law := ck_20 _ (List.mem_of_getElem? (i := 5) rfl)
theorem mw_20_8 : Cond.code yX0_partOf cX0_partOf 2 (some .long) ∈ wsL_law := ck_20 _ (List.mem_of_getElem? (i := 8) rfl)
theorem mw_20_6 : Cond.instanceMethod yX0_partOf ∈ wsL_law := ck_20 _ (List.mem_of_getElem? (i := 6) rfl)
theorem mw_20_7 : Cond.selects RX0 yX0_partOf yX0_partOf ∈ wsL_law := ck_20 _ (List.mem_of_getElem? (i := 7) rfl)
theorem mw_18_10 : Cond.methodLink RX0 45 yX0_firstOf ∈ wsL_law := ck_18 _ (List.mem_of_getElem? (i := 10) rfl)
theorem mw_18_12 : Cond.code yX0_firstOf cX0_firstOf 2 (some .int) ∈ wsL_law := ck_18 _ (List.mem_of_getElem? (i := 12) rfl)
theorem mw_18_11 : Cond.static yX0_firstOf ∈ wsL_law := ck_18 _ (List.mem_of_getElem? (i := 11) rfl)
theorem mw_18_13 : Cond.methodLink RX0 52 yX0_writeEquations ∈ wsL_law := ck_18 _ (List.mem_of_getElem? (i := 13) rfl)
theorem mw_18_16 : Cond.code yX0_writeEquations cX0_writeEquations 7 none ∈ wsL_law := ck_18 _ (List.mem_of_getElem? (i := 16) rfl)
theorem mw_18_14 : Cond.instanceMethod yX0_writeEquations ∈ wsL_law := ck_18 _ (List.mem_of_getElem? (i := 14) rfl)
theorem mw_18_15 : Cond.selects RX0 yX0_writeEquations yX0_writeEquations ∈ wsL_law := ck_18 _ (List.mem_of_getElem? (i := 15) rfl)
theorem mw_19_5 : Cond.methodLink RX0 55 yX0_determinant ∈ wsL_law := ck_19 _ (List.mem_of_getElem? (i := 5) rfl)
theorem mw_19_8 : Cond.code yX0_determinant cX0_determinant 4 (some .long) ∈ wsL_law := ck_19 _ (List.mem_of_getElem? (i := 8) rfl)
theorem mw_19_6 : Cond.instanceMethod yX0_determinant ∈ wsL_law := ck_19 _ (List.mem_of_getElem? (i := 6) rfl)
theorem mw_19_7 : Cond.selects RX0 yX0_determinant yX0_determinant ∈ wsL_law := ck_19 _ (List.mem_of_getElem? (i := 7) rfl)
theorem mw_19_17 : Cond.methodLink RX0 63 yX0_solveParts ∈ wsL_law := ck_19 _ (List.mem_of_getElem? (i := 17) rfl)
theorem mw_19_20 : Cond.code yX0_solveParts cX0_solveParts 7 none ∈ wsL_law := ck_19 _ (List.mem_of_getElem? (i := 20) rfl)
theorem mw_19_18 : Cond.instanceMethod yX0_solveParts ∈ wsL_law := ck_19 _ (List.mem_of_getElem? (i := 18) rfl)
theorem mw_19_19 : Cond.selects RX0 yX0_solveParts yX0_solveParts ∈ wsL_law := ck_19 _ (List.mem_of_getElem? (i := 19) rfl)
theorem mw_3_23 : Cond.fieldLink RX0 31 "MudShares$Fit" "misfit" "LMudShares$Fraction;" ∈ wsL_law := ck_3 _ (List.mem_of_getElem? (i := 23) rfl)
theorem mw_20_1 : Cond.methodLink RX0 66 yX0_misfitAbove ∈ wsL_law := ck_20 _ (List.mem_of_getElem? (i := 1) rfl)
theorem mw_20_4 : Cond.code yX0_misfitAbove cX0_misfitAbove 4 (some .long) ∈ wsL_law := ck_20 _ (List.mem_of_getElem? (i := 4) rfl)
theorem mw_20_2 : Cond.instanceMethod yX0_misfitAbove ∈ wsL_law := ck_20 _ (List.mem_of_getElem? (i := 2) rfl)
theorem mw_20_3 : Cond.selects RX0 yX0_misfitAbove yX0_misfitAbove ∈ wsL_law := ck_20 _ (List.mem_of_getElem? (i := 3) rfl)
theorem mw_20_9 : Cond.methodLink RX0 69 yX1_put ∈ wsL_law := ck_20 _ (List.mem_of_getElem? (i := 9) rfl)
theorem mw_20_12 : Cond.code yX1_put cX1_put 7 none ∈ wsL_law := ck_20 _ (List.mem_of_getElem? (i := 12) rfl)
theorem mw_20_10 : Cond.instanceMethod yX1_put ∈ wsL_law := ck_20 _ (List.mem_of_getElem? (i := 10) rfl)
theorem mw_20_11 : Cond.selects RX1 yX1_put yX1_put ∈ wsL_law := ck_20 _ (List.mem_of_getElem? (i := 11) rfl)
theorem fg_X0_22 : FG RX0 22 0 3 := ⟨RX0, TX0, 9, rfl, by decide, inlX0, mw_3_20⟩
theorem fp_X0_41 : FP RX0 41 0 6 .int := ⟨RX0, TX0, 9, tyX0, rfl, by decide, inlX0, mw_18_7, tyX0_ok, nmX0, rfl, by decide +kernel⟩
theorem fp_X0_49 : FP RX0 49 0 7 .int := ⟨RX0, TX0, 9, tyX0, rfl, by decide, inlX0, mw_18_8, tyX0_ok, nmX0, rfl, by decide +kernel⟩
theorem fp_X0_59 : FP RX0 59 0 8 .long := ⟨RX0, TX0, 9, tyX0, rfl, by decide, inlX0, mw_18_9, tyX0_ok, nmX0, rfl, by decide +kernel⟩
theorem fg_X0_31 : FG RX0 31 0 5 := ⟨RX0, TX0, 9, rfl, by decide, inlX0, mw_3_23⟩
theorem kf_X2_product : KV RX2 yX2_product cX2_product 7 (some .long) 3 := ⟨mw_17_21, mw_17_19, mw_17_20, mw_1_22, by decide, by decide, by decide +kernel⟩
theorem kf_X0_otherAt : KV RX0 yX0_otherAt cX0_otherAt 2 (some .int) 1 := ⟨mw_18_20, mw_18_18, mw_18_19, mw_3_8, by decide, by decide, by decide +kernel⟩
theorem kf_X0_putPart : KV RX0 yX0_putPart cX0_putPart 4 none 2 := ⟨mw_20_0, mw_19_22, mw_19_23, mw_3_8, by decide, by decide, by decide +kernel⟩
theorem kf_X0_partOf : KV RX0 yX0_partOf cX0_partOf 2 (some .long) 1 := ⟨mw_20_8, mw_20_6, mw_20_7, mw_3_8, by decide, by decide, by decide +kernel⟩
theorem kf_X0_firstOf : KS yX0_firstOf cX0_firstOf 2 (some .int) 1 := ⟨mw_18_12, mw_18_11, mw_3_8, by decide, by decide, by decide +kernel⟩
theorem kf_X0_writeEquations : KV RX0 yX0_writeEquations cX0_writeEquations 7 none 0 := ⟨mw_18_16, mw_18_14, mw_18_15, mw_3_8, by decide, by decide, by decide +kernel⟩
theorem kf_X0_determinant : KV RX0 yX0_determinant cX0_determinant 4 (some .long) 0 := ⟨mw_19_8, mw_19_6, mw_19_7, mw_3_8, by decide, by decide, by decide +kernel⟩
theorem kf_X0_solveParts : KV RX0 yX0_solveParts cX0_solveParts 7 none 0 := ⟨mw_19_20, mw_19_18, mw_19_19, mw_3_8, by decide, by decide, by decide +kernel⟩
theorem kf_X0_misfitAbove : KV RX0 yX0_misfitAbove cX0_misfitAbove 4 (some .long) 0 := ⟨mw_20_4, mw_20_2, mw_20_3, mw_3_8, by decide, by decide, by decide +kernel⟩
theorem kf_X1_put : KV RX1 yX1_put cX1_put 7 none 2 := ⟨mw_20_12, mw_20_10, mw_20_11, mw_2_6, by decide, by decide, by decide +kernel⟩
def L_X0_weigh_9 (xhd : Nat → Int32) (xwt : Nat → Int32) (us : Int32) (i1 : Int32) : Nat → Int32 → (Nat → Int64) → Int32 × (Nat → Int64)
  | 0, _, _ => (0, fun _ => 0)
  | n9 + 1, i4, w5 => (if 5 ≤ i4 then (i4, w5) else L_X0_weigh_9 xhd xwt us i1 n9 (i4 + 1) (vp_updL w5 (Int32.toNatClampNeg ((i1 * 5) + i4)) (f_X2_product xhd xwt i1 i4 us)))
def L_X0_weigh_2 (xhd : Nat → Int32) (xwt : Nat → Int32) (us : Int32) : Nat → Int32 → (Nat → Int64) → Int32 × (Nat → Int64)
  | 0, _, _ => (0, fun _ => 0)
  | n2 + 1, i1, w2 => (if 5 ≤ i1 then (i1, w2) else ((fun (y9 : Int32 × (Nat → Int64)) => L_X0_weigh_2 xhd xwt us n2 (i1 + 1) y9.2) (L_X0_weigh_9 xhd xwt us i1 6 0 w2)))
def f_X0_weigh (xpr : Nat → Int64) (xhd : Nat → Int32) (xwt : Nat → Int32) (us : Int32) : (Nat → Int64) := ((fun (y2 : Int32 × (Nat → Int64)) => y2.2) (L_X0_weigh_2 xhd xwt us 6 0 xpr))
set_option maxRecDepth 100000 in
set_option maxHeartbeats 4000000 in
theorem c_X0_weigh (l : Launch) (D : va_G) (cI cJ : ClassId) (af au afp afm afs aft afq auh auw : Nat) (xfs : Int32) (xba : Int32) (xbe : Int64) (xpr : Nat → Int64) (xmx : Nat → Int64) (xsd : Nat → Int64) (xpt : Nat → Int64) (xfa : Int64) (xfb : Int64) (xsc : Int32) (xtc : Int32) (xhd : Nat → Int32) (xwt : Nat → Int32) (us : Int32) : CV l yX0_weigh cX0_weigh 4 3 D cI cJ [.ref af, .int us] [(af, .inr (0, [.ref au, .ref afp, .ref afm, .ref afs, .ref aft, .ref afq, .int xfs, .int xba, .long xbe])), (afp, .inl (cJ, 25, .inr (.inl xpr))), (afm, .inl (cJ, 9, .inr (.inl xmx))), (afs, .inl (cJ, 3, .inr (.inl xsd))), (aft, .inl (cJ, 4, .inr (.inl xpt))), (afq, .inr (1, [.long xfa, .long xfb])), (au, .inr (2, [.ref auh, .ref auw, .int xsc, .int xtc])), (auh, .inl (cI, 20, .inl xhd)), (auw, .inl (cI, 4, .inl xwt))] [(af, .inr (0, [.ref au, .ref afp, .ref afm, .ref afs, .ref aft, .ref afq, .int xfs, .int xba, .long xbe])), (afp, .inl (cJ, 25, .inr (.inl (f_X0_weigh xpr xhd xwt us)))), (afm, .inl (cJ, 9, .inr (.inl xmx))), (afs, .inl (cJ, 3, .inr (.inl xsd))), (aft, .inl (cJ, 4, .inr (.inl xpt))), (afq, .inr (1, [.long xfa, .long xfb])), (au, .inr (2, [.ref auh, .ref auw, .int xsc, .int xtc])), (auh, .inl (cI, 20, .inl xhd)), (auw, .inl (cI, 4, .inl xwt))] := by
  generalize hr : f_X0_weigh xpr xhd xwt us = r
  refine fr_entryV (by decide) rfl ?_
  intro p e s m args below meth c A Q H locs hQ C hret hlk w ls hl
  have hx := C.1
  have hb := C.2.1
  have hl : lv_has ls 4 [(0, .ref af), (1, .int us)] := hl
  have hr : ((fun (y2 : Int32 × (Nat → Int64)) => y2.2) (L_X0_weigh_2 xhd xwt us 6 0 xpr)) = r := hr
  refine lv_iconst (v := 0) hx hb dX0_weigh_0 (by decide) ?_
  refine lv_istore_n (lv' := [(2, .int 0), (0, .ref af), (1, .int us)]) hx hb dX0_weigh_1 rfl hl (by decide) rfl (fun ls hl => ?_)
  obtain ⟨y2, hy2⟩ : ∃ y, y = L_X0_weigh_2 xhd xwt us 6 0 xpr := ⟨_, rfl⟩
  have hr : y2.2 = r := by rw [hy2]; exact hr
  have X2 : ∀ (H : Heap) (locs : List Loc), Wd D A s.heap H locs [(af, .inr (0, [.ref au, .ref afp, .ref afm, .ref afs, .ref aft, .ref afq, .int xfs, .int xba, .long xbe])), (afp, .inl (cJ, 25, .inr (.inl y2.2))), (afm, .inl (cJ, 9, .inr (.inl xmx))), (afs, .inl (cJ, 3, .inr (.inl xsd))), (aft, .inl (cJ, 4, .inr (.inl xpt))), (afq, .inr (1, [.long xfa, .long xfb])), (au, .inr (2, [.ref auh, .ref auw, .int xsc, .int xtc])), (auh, .inl (cI, 20, .inl xhd)), (auw, .inl (cI, 4, .inl xwt))] → ∀ (ls : Array Slot), lv_has ls 4 [(0, .ref af), (1, .int us), (2, .int y2.1)] → W p l e (rl 3) s m args below meth c H locs 0 0 Q (F0 m 46 ls []) := by
    intro H locs w ls hl
    subst hr hQ
    exact fr_vret C hret hlk w rfl dX0_weigh_46
  have LP2 : ∀ (n2 : Nat) (k2 : Nat) (i1 : Int32) (w2 : Nat → Int64), i1 = nI k2 → k2 ≤ 5 → 5 < k2 + n2 → L_X0_weigh_2 xhd xwt us n2 i1 w2 = y2 → ∀ (H : Heap) (locs : List Loc), Wd D A s.heap H locs [(af, .inr (0, [.ref au, .ref afp, .ref afm, .ref afs, .ref aft, .ref afq, .int xfs, .int xba, .long xbe])), (afp, .inl (cJ, 25, .inr (.inl w2))), (afm, .inl (cJ, 9, .inr (.inl xmx))), (afs, .inl (cJ, 3, .inr (.inl xsd))), (aft, .inl (cJ, 4, .inr (.inl xpt))), (afq, .inr (1, [.long xfa, .long xfb])), (au, .inr (2, [.ref auh, .ref auw, .int xsc, .int xtc])), (auh, .inl (cI, 20, .inl xhd)), (auw, .inl (cI, 4, .inl xwt))] → ∀ (ls : Array Slot), lv_has ls 4 [(0, .ref af), (1, .int us), (2, .int i1)] → W p l e (rl 3) s m args below meth c H locs 0 0 Q (F0 m 2 ls []) := by
    clear hr
    intro n2
    induction n2 with
    | zero => intro k2 i1 w2 hk2 hkN2 hn2; exact absurd hn2 (by omega)
    | succ n2 ih2 =>
      intro k2 i1 w2 hk2 hkN2 hn2 hr H locs w ls hl
      have hr : (if 5 ≤ i1 then (i1, w2) else ((fun (y9 : Int32 × (Nat → Int64)) => L_X0_weigh_2 xhd xwt us n2 (i1 + 1) y9.2) (L_X0_weigh_9 xhd xwt us i1 6 0 w2))) = y2 := hr
      refine lv_iload_n hx hb dX0_weigh_2 rfl (lv_at hl 2 rfl) ?_
      refine lv_iconst (v := 5) hx hb dX0_weigh_3 (by decide) ?_
      refine lv_icmp_ge (tgt := 46) hx hb dX0_weigh_4 (by decide) (fun c4_3 => ?_) (fun c4_3 => ?_)
      · have hr := (if_pos c4_3).symm.trans hr
        subst hr
        exact X2 H locs w ls (lv_sub hl [0, 1, 2] rfl)
      · have hr := (if_neg c4_3).symm.trans hr
        have hkl2 := kl_of hk2 hkN2 (N := 5) (by decide) (by omega) c4_3
        refine lv_iconst (v := 0) hx hb dX0_weigh_7 (by decide) ?_
        refine lv_istore_n (lv' := [(3, .int 0), (0, .ref af), (1, .int us), (2, .int i1)]) hx hb dX0_weigh_8 rfl hl (by decide) rfl (fun ls hl => ?_)
        obtain ⟨y9, hy9⟩ : ∃ y, y = L_X0_weigh_9 xhd xwt us i1 6 0 w2 := ⟨_, rfl⟩
        have hr : L_X0_weigh_2 xhd xwt us n2 (i1 + 1) y9.2 = y2 := by rw [hy9]; exact hr
        have X9 : ∀ (H : Heap) (locs : List Loc), Wd D A s.heap H locs [(af, .inr (0, [.ref au, .ref afp, .ref afm, .ref afs, .ref aft, .ref afq, .int xfs, .int xba, .long xbe])), (afp, .inl (cJ, 25, .inr (.inl y9.2))), (afm, .inl (cJ, 9, .inr (.inl xmx))), (afs, .inl (cJ, 3, .inr (.inl xsd))), (aft, .inl (cJ, 4, .inr (.inl xpt))), (afq, .inr (1, [.long xfa, .long xfb])), (au, .inr (2, [.ref auh, .ref auw, .int xsc, .int xtc])), (auh, .inl (cI, 20, .inl xhd)), (auw, .inl (cI, 4, .inl xwt))] → ∀ (ls : Array Slot), lv_has ls 4 [(0, .ref af), (1, .int us), (2, .int i1), (3, .int y9.1)] → W p l e (rl 3) s m args below meth c H locs 0 0 Q (F0 m 40 ls []) := by
          intro H locs w ls hl
          refine lv_iinc (v := i1 + 1) (lv' := [(2, .int (i1 + 1)), (0, .ref af), (1, .int us), (3, .int y9.1)]) hx hb dX0_weigh_40 hl (k := 2) rfl rfl (by decide) rfl (fun ls hl => ?_)
          refine lv_goto (tgt := 2) hx hb dX0_weigh_43 (by decide) ?_
          exact ih2 (k2 + 1) (i1 + 1) y9.2 (by rw [hk2]; exact nI_1 k2) (by omega) (by omega) hr H locs w ls (lv_sub hl [1, 2, 0] rfl)
        have LP9 : ∀ (n9 : Nat) (k9 : Nat) (i4 : Int32) (w5 : Nat → Int64), i4 = nI k9 → k9 ≤ 5 → 5 < k9 + n9 → L_X0_weigh_9 xhd xwt us i1 n9 i4 w5 = y9 → ∀ (H : Heap) (locs : List Loc), Wd D A s.heap H locs [(af, .inr (0, [.ref au, .ref afp, .ref afm, .ref afs, .ref aft, .ref afq, .int xfs, .int xba, .long xbe])), (afp, .inl (cJ, 25, .inr (.inl w5))), (afm, .inl (cJ, 9, .inr (.inl xmx))), (afs, .inl (cJ, 3, .inr (.inl xsd))), (aft, .inl (cJ, 4, .inr (.inl xpt))), (afq, .inr (1, [.long xfa, .long xfb])), (au, .inr (2, [.ref auh, .ref auw, .int xsc, .int xtc])), (auh, .inl (cI, 20, .inl xhd)), (auw, .inl (cI, 4, .inl xwt))] → ∀ (ls : Array Slot), lv_has ls 4 [(0, .ref af), (1, .int us), (2, .int i1), (3, .int i4)] → W p l e (rl 3) s m args below meth c H locs 0 0 Q (F0 m 9 ls []) := by
          clear hr
          intro n9
          induction n9 with
          | zero => intro k9 i4 w5 hk9 hkN9 hn9; exact absurd hn9 (by omega)
          | succ n9 ih9 =>
            intro k9 i4 w5 hk9 hkN9 hn9 hr H locs w ls hl
            have hr : (if 5 ≤ i4 then (i4, w5) else L_X0_weigh_9 xhd xwt us i1 n9 (i4 + 1) (vp_updL w5 (Int32.toNatClampNeg ((i1 * 5) + i4)) (f_X2_product xhd xwt i1 i4 us))) = y9 := hr
            refine lv_iload_n hx hb dX0_weigh_9 rfl (lv_at hl 3 rfl) ?_
            refine lv_iconst (v := 5) hx hb dX0_weigh_10 (by decide) ?_
            refine lv_icmp_ge (tgt := 40) hx hb dX0_weigh_11 (by decide) (fun c11_6 => ?_) (fun c11_6 => ?_)
            · have hr := (if_pos c11_6).symm.trans hr
              subst hr
              exact X9 H locs w ls (lv_sub hl [0, 1, 2, 3] rfl)
            · have hr := (if_neg c11_6).symm.trans hr
              have hkl9 := kl_of hk9 hkN9 (N := 5) (by decide) (by omega) c11_6
              refine lv_aload_n hx hb dX0_weigh_14 rfl (lv_at hl 0 rfl) ?_
              refine fr_get C w fg_X0_15 0 rfl rfl dX0_weigh_15 ?_
              refine lv_iload_n hx hb dX0_weigh_18 rfl (lv_at hl 2 rfl) ?_
              refine lv_iconst (v := 5) hx hb dX0_weigh_19 (by decide) ?_
              refine lv_imul hx hb dX0_weigh_20 ?_
              refine lv_iload_n hx hb dX0_weigh_21 rfl (lv_at hl 3 rfl) ?_
              refine lv_iadd hx hb dX0_weigh_22 ?_
              refine lv_aload_n hx hb dX0_weigh_23 rfl (lv_at hl 0 rfl) ?_
              refine fr_get C w fg_X0_9 0 rfl rfl dX0_weigh_24 ?_
              refine lv_iload_n hx hb dX0_weigh_27 rfl (lv_at hl 2 rfl) ?_
              refine lv_iload_n hx hb dX0_weigh_28 rfl (lv_at hl 3 rfl) ?_
              refine lv_iload_n hx hb dX0_weigh_29 rfl (lv_at hl 1 rfl) ?_
              refine fr_callLV (As := [.int i1, .int i4, .int us]) (rest := [.int ((i1 * 5) + i4), .ref afp]) C w kf_X2_product mw_17_18 (c_X2_product l D cI cJ au auh auw xsc xtc xhd xwt i1 i4 us) ⟨Nat.le_of_ble_eq_true rfl, Nat.le_of_ble_eq_true rfl⟩ ⟨Nat.le_refl 0, Nat.le_refl 0⟩ [6, 7, 8] rfl rfl rfl (ws' := [(af, .inr (0, [.ref au, .ref afp, .ref afm, .ref afs, .ref aft, .ref afq, .int xfs, .int xba, .long xbe])), (afp, .inl (cJ, 25, .inr (.inl w5))), (afm, .inl (cJ, 9, .inr (.inl xmx))), (afs, .inl (cJ, 3, .inr (.inl xsd))), (aft, .inl (cJ, 4, .inr (.inl xpt))), (afq, .inr (1, [.long xfa, .long xfb])), (au, .inr (2, [.ref auh, .ref auw, .int xsc, .int xtc])), (auh, .inl (cI, 20, .inl xhd)), (auw, .inl (cI, 4, .inl xwt))]) rfl rfl rfl rfl hl.1 rfl (Nat.le_of_ble_eq_true rfl) dX0_weigh_30 (fun H locs w => ?_)
              refine fr_last C w 1 rfl (vi_lin hk2 hk9 (cn := 5) (by decide) (by omega) (by decide)) (ws' := [(af, .inr (0, [.ref au, .ref afp, .ref afm, .ref afs, .ref aft, .ref afq, .int xfs, .int xba, .long xbe])), (afp, .inl (cJ, 25, .inr (.inl (vp_updL w5 (Int32.toNatClampNeg ((i1 * 5) + i4)) (f_X2_product xhd xwt i1 i4 us))))), (afm, .inl (cJ, 9, .inr (.inl xmx))), (afs, .inl (cJ, 3, .inr (.inl xsd))), (aft, .inl (cJ, 4, .inr (.inl xpt))), (afq, .inr (1, [.long xfa, .long xfb])), (au, .inr (2, [.ref auh, .ref auw, .int xsc, .int xtc])), (auh, .inl (cI, 20, .inl xhd)), (auw, .inl (cI, 4, .inl xwt))]) rfl dX0_weigh_33 (fun H locs w => ?_)
              refine lv_iinc (v := i4 + 1) (lv' := [(3, .int (i4 + 1)), (0, .ref af), (1, .int us), (2, .int i1)]) hx hb dX0_weigh_34 hl (k := 3) rfl rfl (by decide) rfl (fun ls hl => ?_)
              refine lv_goto (tgt := 9) hx hb dX0_weigh_37 (by decide) ?_
              exact ih9 (k9 + 1) (i4 + 1) (vp_updL w5 (Int32.toNatClampNeg ((i1 * 5) + i4)) (f_X2_product xhd xwt i1 i4 us)) (by rw [hk9]; exact nI_1 k9) (by omega) (by omega) hr H locs w ls (lv_sub hl [1, 2, 3, 0] rfl)
        exact LP9 6 0 0 w2 (by decide) (by omega) (by omega) hy9.symm H locs w ls (lv_sub hl [1, 2, 3, 0] rfl)
  exact LP2 6 0 0 xpr (by decide) (by omega) (by omega) hy2.symm H locs w ls (lv_sub hl [1, 2, 0] rfl)
def L_X0_writeEquations_22 (xfs : Int32) (xba : Int32) (xpr : Nat → Int64) (i1 : Int32) : Nat → Int32 → (Nat → Int64) → Int32 × (Nat → Int64)
  | 0, _, _ => (0, fun _ => 0)
  | n22 + 1, i5, w6 => (if 3 ≤ i5 then (i5, w6) else ((fun (v9 : Int64) => ((fun (v12 : Int32) => ((fun (v14 : Int64) => L_X0_writeEquations_22 xfs xba xpr i1 n22 (i5 + 1) (vp_updL w6 (Int32.toNatClampNeg ((i1 * 3) + i5)) v14)) (if v12 = 0 then v9 else (f_X0_fromBase xba xpr (f_X0_otherAt xba i1) (f_X0_otherAt xba i5))))) (if (f_X6_isIn xfs (f_X0_otherAt xba i1)) = 0 then 0 else (if (f_X6_isIn xfs (f_X0_otherAt xba i5)) = 0 then 0 else 1)))) (if i1 = i5 then 1 else 0)))
def L_X0_writeEquations_2 (xfs : Int32) (xba : Int32) (xpr : Nat → Int64) : Nat → Int32 → (Nat → Int64) → (Nat → Int64) → Int32 × (Nat → Int64) × (Nat → Int64)
  | 0, _, _, _ => (0, fun _ => 0, fun _ => 0)
  | n2 + 1, i1, w2, w3 => (if 3 ≤ i1 then (i1, w2, w3) else ((fun (y22 : Int32 × (Nat → Int64)) => ((fun (v19 : Int64) => L_X0_writeEquations_2 xfs xba xpr n2 (i1 + 1) y22.2 (vp_updL w3 (Int32.toNatClampNeg i1) v19)) (if (f_X6_isIn xfs (f_X0_otherAt xba i1)) = 0 then 0 else (f_X0_fromBase xba xpr (f_X0_otherAt xba i1) 4)))) (L_X0_writeEquations_22 xfs xba xpr i1 4 0 w2)))
def f_X0_writeEquations (xfs : Int32) (xba : Int32) (xpr : Nat → Int64) (xmx : Nat → Int64) (xsd : Nat → Int64) : (Nat → Int64) × (Nat → Int64) := ((fun (y2 : Int32 × (Nat → Int64) × (Nat → Int64)) => (y2.2.1, y2.2.2)) (L_X0_writeEquations_2 xfs xba xpr 4 0 xmx xsd))
set_option maxRecDepth 100000 in
set_option maxHeartbeats 4000000 in
theorem c_X0_writeEquations (l : Launch) (D : va_G) (cI cJ : ClassId) (af au afp afm afs aft afq : Nat) (xfs : Int32) (xba : Int32) (xbe : Int64) (xpr : Nat → Int64) (xmx : Nat → Int64) (xsd : Nat → Int64) (xpt : Nat → Int64) (xfa : Int64) (xfb : Int64)  : CV l yX0_writeEquations cX0_writeEquations 7 2 D cI cJ [.ref af] [(af, .inr (0, [.ref au, .ref afp, .ref afm, .ref afs, .ref aft, .ref afq, .int xfs, .int xba, .long xbe])), (afp, .inl (cJ, 25, .inr (.inl xpr))), (afm, .inl (cJ, 9, .inr (.inl xmx))), (afs, .inl (cJ, 3, .inr (.inl xsd))), (aft, .inl (cJ, 4, .inr (.inl xpt))), (afq, .inr (1, [.long xfa, .long xfb]))] [(af, .inr (0, [.ref au, .ref afp, .ref afm, .ref afs, .ref aft, .ref afq, .int xfs, .int xba, .long xbe])), (afp, .inl (cJ, 25, .inr (.inl xpr))), (afm, .inl (cJ, 9, .inr (.inl ((f_X0_writeEquations xfs xba xpr xmx xsd).1)))), (afs, .inl (cJ, 3, .inr (.inl ((f_X0_writeEquations xfs xba xpr xmx xsd).2)))), (aft, .inl (cJ, 4, .inr (.inl xpt))), (afq, .inr (1, [.long xfa, .long xfb]))] := by
  generalize hr : f_X0_writeEquations xfs xba xpr xmx xsd = r
  refine fr_entryV (by decide) rfl ?_
  intro p e s m args below meth c A Q H locs hQ C hret hlk w ls hl
  have hx := C.1
  have hb := C.2.1
  have hl : lv_has ls 7 [(0, .ref af)] := hl
  have hr : ((fun (y2 : Int32 × (Nat → Int64) × (Nat → Int64)) => (y2.2.1, y2.2.2)) (L_X0_writeEquations_2 xfs xba xpr 4 0 xmx xsd)) = r := hr
  refine lv_iconst (v := 0) hx hb dX0_writeEquations_0 (by decide) ?_
  refine lv_istore_n (lv' := [(1, .int 0), (0, .ref af)]) hx hb dX0_writeEquations_1 rfl hl (by decide) rfl (fun ls hl => ?_)
  obtain ⟨y2, hy2⟩ : ∃ y, y = L_X0_writeEquations_2 xfs xba xpr 4 0 xmx xsd := ⟨_, rfl⟩
  have hr : (y2.2.1, y2.2.2) = r := by rw [hy2]; exact hr
  have X2 : ∀ (H : Heap) (locs : List Loc), Wd D A s.heap H locs [(af, .inr (0, [.ref au, .ref afp, .ref afm, .ref afs, .ref aft, .ref afq, .int xfs, .int xba, .long xbe])), (afp, .inl (cJ, 25, .inr (.inl xpr))), (afm, .inl (cJ, 9, .inr (.inl y2.2.1))), (afs, .inl (cJ, 3, .inr (.inl y2.2.2))), (aft, .inl (cJ, 4, .inr (.inl xpt))), (afq, .inr (1, [.long xfa, .long xfb]))] → ∀ (ls : Array Slot), lv_has ls 7 [(0, .ref af), (1, .int y2.1)] → W p l e (rl 2) s m args below meth c H locs 0 0 Q (F0 m 135 ls []) := by
    intro H locs w ls hl
    subst hr hQ
    exact fr_vret C hret hlk w rfl dX0_writeEquations_135
  have LP2 : ∀ (n2 : Nat) (k2 : Nat) (i1 : Int32) (w2 : Nat → Int64) (w3 : Nat → Int64), i1 = nI k2 → k2 ≤ 3 → 3 < k2 + n2 → L_X0_writeEquations_2 xfs xba xpr n2 i1 w2 w3 = y2 → ∀ (H : Heap) (locs : List Loc), Wd D A s.heap H locs [(af, .inr (0, [.ref au, .ref afp, .ref afm, .ref afs, .ref aft, .ref afq, .int xfs, .int xba, .long xbe])), (afp, .inl (cJ, 25, .inr (.inl xpr))), (afm, .inl (cJ, 9, .inr (.inl w2))), (afs, .inl (cJ, 3, .inr (.inl w3))), (aft, .inl (cJ, 4, .inr (.inl xpt))), (afq, .inr (1, [.long xfa, .long xfb]))] → ∀ (ls : Array Slot), lv_has ls 7 [(0, .ref af), (1, .int i1)] → W p l e (rl 2) s m args below meth c H locs 0 0 Q (F0 m 2 ls []) := by
    clear hr
    intro n2
    induction n2 with
    | zero => intro k2 i1 w2 w3 hk2 hkN2 hn2; exact absurd hn2 (by omega)
    | succ n2 ih2 =>
      intro k2 i1 w2 w3 hk2 hkN2 hn2 hr H locs w ls hl
      have hr : (if 3 ≤ i1 then (i1, w2, w3) else ((fun (y22 : Int32 × (Nat → Int64)) => ((fun (v19 : Int64) => L_X0_writeEquations_2 xfs xba xpr n2 (i1 + 1) y22.2 (vp_updL w3 (Int32.toNatClampNeg i1) v19)) (if (f_X6_isIn xfs (f_X0_otherAt xba i1)) = 0 then 0 else (f_X0_fromBase xba xpr (f_X0_otherAt xba i1) 4)))) (L_X0_writeEquations_22 xfs xba xpr i1 4 0 w2))) = y2 := hr
      refine lv_iload_n hx hb dX0_writeEquations_2 rfl (lv_at hl 1 rfl) ?_
      refine lv_iconst (v := 3) hx hb dX0_writeEquations_3 (by decide) ?_
      refine lv_icmp_ge (tgt := 135) hx hb dX0_writeEquations_4 (by decide) (fun c4_4 => ?_) (fun c4_4 => ?_)
      · have hr := (if_pos c4_4).symm.trans hr
        subst hr
        exact X2 H locs w ls (lv_sub hl [0, 1] rfl)
      · have hr := (if_neg c4_4).symm.trans hr
        have hkl2 := kl_of hk2 hkN2 (N := 3) (by decide) (by omega) c4_4
        refine lv_aload_n hx hb dX0_writeEquations_7 rfl (lv_at hl 0 rfl) ?_
        refine fr_get C w fg_X0_41 0 rfl rfl dX0_writeEquations_8 ?_
        refine lv_aload_n hx hb dX0_writeEquations_11 rfl (lv_at hl 0 rfl) ?_
        refine lv_iload_n hx hb dX0_writeEquations_12 rfl (lv_at hl 1 rfl) ?_
        refine fr_callIV (As := [.int i1]) (rest := [.int xfs]) C w kf_X0_otherAt mw_18_17 (c_X0_otherAt l D cI cJ af au afp afm afs aft afq xfs xba xbe xpr w2 w3 xpt xfa xfb i1) ⟨Nat.le_of_ble_eq_true rfl, Nat.le_of_ble_eq_true rfl⟩ ⟨Nat.le_refl 0, Nat.le_refl 0⟩ [0, 1, 2, 3, 4, 5] rfl rfl rfl (ws' := [(af, .inr (0, [.ref au, .ref afp, .ref afm, .ref afs, .ref aft, .ref afq, .int xfs, .int xba, .long xbe])), (afp, .inl (cJ, 25, .inr (.inl xpr))), (afm, .inl (cJ, 9, .inr (.inl w2))), (afs, .inl (cJ, 3, .inr (.inl w3))), (aft, .inl (cJ, 4, .inr (.inl xpt))), (afq, .inr (1, [.long xfa, .long xfb]))]) rfl rfl rfl rfl hl.1 rfl (Nat.le_of_ble_eq_true rfl) dX0_writeEquations_13 (fun H locs w => ?_)
        refine fr_callIN (As := [.int xfs, .int (f_X0_otherAt xba i1)]) (rest := []) C w kf_X6_isIn C.2.2.2.2.2.2.2 (c_X6_isIn l D cI cJ xfs (f_X0_otherAt xba i1)) ⟨Nat.le_of_ble_eq_true rfl, Nat.le_of_ble_eq_true rfl⟩ ⟨Nat.le_refl 0, Nat.le_refl 0⟩ [] rfl rfl rfl (ws' := [(af, .inr (0, [.ref au, .ref afp, .ref afm, .ref afs, .ref aft, .ref afq, .int xfs, .int xba, .long xbe])), (afp, .inl (cJ, 25, .inr (.inl xpr))), (afm, .inl (cJ, 9, .inr (.inl w2))), (afs, .inl (cJ, 3, .inr (.inl w3))), (aft, .inl (cJ, 4, .inr (.inl xpt))), (afq, .inr (1, [.long xfa, .long xfb]))]) rfl rfl hl.1 rfl (Nat.le_of_ble_eq_true rfl) dX0_writeEquations_16 (fun H locs w => ?_)
        refine lv_istore_n (lv' := [(2, .int (f_X6_isIn xfs (f_X0_otherAt xba i1))), (0, .ref af), (1, .int i1)]) hx hb dX0_writeEquations_19 rfl hl (by decide) rfl (fun ls hl => ?_)
        refine lv_iconst (v := 0) hx hb dX0_writeEquations_20 (by decide) ?_
        refine lv_istore_n (lv' := [(3, .int 0), (2, .int (f_X6_isIn xfs (f_X0_otherAt xba i1))), (0, .ref af), (1, .int i1)]) hx hb dX0_writeEquations_21 rfl hl (by decide) rfl (fun ls hl => ?_)
        obtain ⟨y22, hy22⟩ : ∃ y, y = L_X0_writeEquations_22 xfs xba xpr i1 4 0 w2 := ⟨_, rfl⟩
        have hr : ((fun (v19 : Int64) => L_X0_writeEquations_2 xfs xba xpr n2 (i1 + 1) y22.2 (vp_updL w3 (Int32.toNatClampNeg i1) v19)) (if (f_X6_isIn xfs (f_X0_otherAt xba i1)) = 0 then 0 else (f_X0_fromBase xba xpr (f_X0_otherAt xba i1) 4))) = y2 := by rw [hy22]; exact hr
        have X22 : ∀ (H : Heap) (locs : List Loc), Wd D A s.heap H locs [(af, .inr (0, [.ref au, .ref afp, .ref afm, .ref afs, .ref aft, .ref afq, .int xfs, .int xba, .long xbe])), (afp, .inl (cJ, 25, .inr (.inl xpr))), (afm, .inl (cJ, 9, .inr (.inl y22.2))), (afs, .inl (cJ, 3, .inr (.inl w3))), (aft, .inl (cJ, 4, .inr (.inl xpt))), (afq, .inr (1, [.long xfa, .long xfb]))] → ∀ (ls : Array Slot), lv_has ls 7 [(0, .ref af), (1, .int i1), (2, .int (f_X6_isIn xfs (f_X0_otherAt xba i1))), (3, .int y22.1)] → W p l e (rl 2) s m args below meth c H locs 0 0 Q (F0 m 105 ls []) := by
          intro H locs w ls hl
          refine lv_aload_n hx hb dX0_writeEquations_105 rfl (lv_at hl 0 rfl) ?_
          refine fr_get C w fg_X0_22 0 rfl rfl dX0_writeEquations_106 ?_
          refine lv_iload_n hx hb dX0_writeEquations_109 rfl (lv_at hl 1 rfl) ?_
          refine lv_iload_n hx hb dX0_writeEquations_110 rfl (lv_at hl 2 rfl) ?_
          have J128_20 : ∀ (v19 : Int64), v19 = (if (f_X6_isIn xfs (f_X0_otherAt xba i1)) = 0 then 0 else (f_X0_fromBase xba xpr (f_X0_otherAt xba i1) 4)) → ∀ (H : Heap) (locs : List Loc), Wd D A s.heap H locs [(af, .inr (0, [.ref au, .ref afp, .ref afm, .ref afs, .ref aft, .ref afq, .int xfs, .int xba, .long xbe])), (afp, .inl (cJ, 25, .inr (.inl xpr))), (afm, .inl (cJ, 9, .inr (.inl y22.2))), (afs, .inl (cJ, 3, .inr (.inl w3))), (aft, .inl (cJ, 4, .inr (.inl xpt))), (afq, .inr (1, [.long xfa, .long xfb]))] → W p l e (rl 2) s m args below meth c H locs 0 0 Q (F0 m 128 ls [.long v19, .int i1, .ref afs]) := by
            intro v19 ev19 H locs w
            have hr : L_X0_writeEquations_2 xfs xba xpr n2 (i1 + 1) y22.2 (vp_updL w3 (Int32.toNatClampNeg i1) v19) = y2 := by subst ev19; exact hr
            refine fr_last C w 3 rfl (vi_ctr hk2 hkl2 (by decide) (by decide)) (ws' := [(af, .inr (0, [.ref au, .ref afp, .ref afm, .ref afs, .ref aft, .ref afq, .int xfs, .int xba, .long xbe])), (afp, .inl (cJ, 25, .inr (.inl xpr))), (afm, .inl (cJ, 9, .inr (.inl y22.2))), (afs, .inl (cJ, 3, .inr (.inl (vp_updL w3 (Int32.toNatClampNeg i1) v19)))), (aft, .inl (cJ, 4, .inr (.inl xpt))), (afq, .inr (1, [.long xfa, .long xfb]))]) rfl dX0_writeEquations_128 (fun H locs w => ?_)
            refine lv_iinc (v := i1 + 1) (lv' := [(1, .int (i1 + 1)), (0, .ref af), (2, .int (f_X6_isIn xfs (f_X0_otherAt xba i1))), (3, .int y22.1)]) hx hb dX0_writeEquations_129 hl (k := 1) rfl rfl (by decide) rfl (fun ls hl => ?_)
            refine lv_goto (tgt := 2) hx hb dX0_writeEquations_132 (by decide) ?_
            exact ih2 (k2 + 1) (i1 + 1) y22.2 (vp_updL w3 (Int32.toNatClampNeg i1) v19) (by rw [hk2]; exact nI_1 k2) (by omega) (by omega) hr H locs w ls (lv_sub hl [1, 0] rfl)
          refine lv_if_eq (tgt := 127) hx hb dX0_writeEquations_111 (by decide) (fun c111_18 => ?_) (fun c111_18 => ?_)
          · refine lv_lconst (v := 0) hx hb dX0_writeEquations_127 (by decide) ?_
            exact J128_20 0 (by rw [if_pos c111_18]) _ _ w
          · refine lv_aload_n hx hb dX0_writeEquations_114 rfl (lv_at hl 0 rfl) ?_
            refine lv_aload_n hx hb dX0_writeEquations_115 rfl (lv_at hl 0 rfl) ?_
            refine lv_iload_n hx hb dX0_writeEquations_116 rfl (lv_at hl 1 rfl) ?_
            refine fr_callIV (As := [.int i1]) (rest := [.ref af, .int i1, .ref afs]) C w kf_X0_otherAt mw_18_17 (c_X0_otherAt l D cI cJ af au afp afm afs aft afq xfs xba xbe xpr y22.2 w3 xpt xfa xfb i1) ⟨Nat.le_of_ble_eq_true rfl, Nat.le_of_ble_eq_true rfl⟩ ⟨Nat.le_refl 0, Nat.le_refl 0⟩ [0, 1, 2, 3, 4, 5] rfl rfl rfl (ws' := [(af, .inr (0, [.ref au, .ref afp, .ref afm, .ref afs, .ref aft, .ref afq, .int xfs, .int xba, .long xbe])), (afp, .inl (cJ, 25, .inr (.inl xpr))), (afm, .inl (cJ, 9, .inr (.inl y22.2))), (afs, .inl (cJ, 3, .inr (.inl w3))), (aft, .inl (cJ, 4, .inr (.inl xpt))), (afq, .inr (1, [.long xfa, .long xfb]))]) rfl rfl rfl rfl hl.1 rfl (Nat.le_of_ble_eq_true rfl) dX0_writeEquations_117 (fun H locs w => ?_)
            refine lv_iconst (v := 4) hx hb dX0_writeEquations_120 (by decide) ?_
            refine fr_callLV (As := [.int (f_X0_otherAt xba i1), .int 4]) (rest := [.int i1, .ref afs]) C w kf_X0_fromBase mw_18_21 (c_X0_fromBase l D cI cJ af au afp afm afs aft afq xfs xba xbe xpr y22.2 w3 xpt xfa xfb (f_X0_otherAt xba i1) 4) ⟨Nat.le_of_ble_eq_true rfl, Nat.le_of_ble_eq_true rfl⟩ ⟨Nat.le_refl 0, Nat.le_refl 0⟩ [0, 1, 2, 3, 4, 5] rfl rfl rfl (ws' := [(af, .inr (0, [.ref au, .ref afp, .ref afm, .ref afs, .ref aft, .ref afq, .int xfs, .int xba, .long xbe])), (afp, .inl (cJ, 25, .inr (.inl xpr))), (afm, .inl (cJ, 9, .inr (.inl y22.2))), (afs, .inl (cJ, 3, .inr (.inl w3))), (aft, .inl (cJ, 4, .inr (.inl xpt))), (afq, .inr (1, [.long xfa, .long xfb]))]) rfl rfl rfl rfl hl.1 rfl (Nat.le_of_ble_eq_true rfl) dX0_writeEquations_121 (fun H locs w => ?_)
            refine lv_goto (tgt := 128) hx hb dX0_writeEquations_124 (by decide) ?_
            exact J128_20 (f_X0_fromBase xba xpr (f_X0_otherAt xba i1) 4) (by rw [if_neg c111_18]) _ _ w
        have LP22 : ∀ (n22 : Nat) (k22 : Nat) (i5 : Int32) (w6 : Nat → Int64), i5 = nI k22 → k22 ≤ 3 → 3 < k22 + n22 → L_X0_writeEquations_22 xfs xba xpr i1 n22 i5 w6 = y22 → ∀ (H : Heap) (locs : List Loc), Wd D A s.heap H locs [(af, .inr (0, [.ref au, .ref afp, .ref afm, .ref afs, .ref aft, .ref afq, .int xfs, .int xba, .long xbe])), (afp, .inl (cJ, 25, .inr (.inl xpr))), (afm, .inl (cJ, 9, .inr (.inl w6))), (afs, .inl (cJ, 3, .inr (.inl w3))), (aft, .inl (cJ, 4, .inr (.inl xpt))), (afq, .inr (1, [.long xfa, .long xfb]))] → ∀ (ls : Array Slot), lv_has ls 7 [(0, .ref af), (1, .int i1), (2, .int (f_X6_isIn xfs (f_X0_otherAt xba i1))), (3, .int i5)] → W p l e (rl 2) s m args below meth c H locs 0 0 Q (F0 m 22 ls []) := by
          clear hr
          intro n22
          induction n22 with
          | zero => intro k22 i5 w6 hk22 hkN22 hn22; exact absurd hn22 (by omega)
          | succ n22 ih22 =>
            intro k22 i5 w6 hk22 hkN22 hn22 hr H locs w ls hl
            have hr : (if 3 ≤ i5 then (i5, w6) else ((fun (v9 : Int64) => ((fun (v12 : Int32) => ((fun (v14 : Int64) => L_X0_writeEquations_22 xfs xba xpr i1 n22 (i5 + 1) (vp_updL w6 (Int32.toNatClampNeg ((i1 * 3) + i5)) v14)) (if v12 = 0 then v9 else (f_X0_fromBase xba xpr (f_X0_otherAt xba i1) (f_X0_otherAt xba i5))))) (if (f_X6_isIn xfs (f_X0_otherAt xba i1)) = 0 then 0 else (if (f_X6_isIn xfs (f_X0_otherAt xba i5)) = 0 then 0 else 1)))) (if i1 = i5 then 1 else 0))) = y22 := hr
            refine lv_iload_n hx hb dX0_writeEquations_22 rfl (lv_at hl 3 rfl) ?_
            refine lv_iconst (v := 3) hx hb dX0_writeEquations_23 (by decide) ?_
            refine lv_icmp_ge (tgt := 105) hx hb dX0_writeEquations_24 (by decide) (fun c24_7 => ?_) (fun c24_7 => ?_)
            · have hr := (if_pos c24_7).symm.trans hr
              subst hr
              exact X22 H locs w ls (lv_sub hl [0, 1, 2, 3] rfl)
            · have hr := (if_neg c24_7).symm.trans hr
              have hkl22 := kl_of hk22 hkN22 (N := 3) (by decide) (by omega) c24_7
              refine lv_iload_n hx hb dX0_writeEquations_27 rfl (lv_at hl 1 rfl) ?_
              refine lv_iload_n hx hb dX0_writeEquations_28 rfl (lv_at hl 3 rfl) ?_
              have J37_17 : ∀ (v9 : Int64), v9 = (if i1 = i5 then 1 else 0) → W p l e (rl 2) s m args below meth c H locs 0 0 Q (F0 m 37 ls [.long v9]) := by
                intro v9 ev9
                have hr : ((fun (v12 : Int32) => ((fun (v14 : Int64) => L_X0_writeEquations_22 xfs xba xpr i1 n22 (i5 + 1) (vp_updL w6 (Int32.toNatClampNeg ((i1 * 3) + i5)) v14)) (if v12 = 0 then v9 else (f_X0_fromBase xba xpr (f_X0_otherAt xba i1) (f_X0_otherAt xba i5))))) (if (f_X6_isIn xfs (f_X0_otherAt xba i1)) = 0 then 0 else (if (f_X6_isIn xfs (f_X0_otherAt xba i5)) = 0 then 0 else 1))) = y22 := by subst ev9; exact hr
                refine lv_lstore (lv' := [(4, .long v9), (0, .ref af), (1, .int i1), (2, .int (f_X6_isIn xfs (f_X0_otherAt xba i1))), (3, .int i5)]) hx hb dX0_writeEquations_37 hl (by decide) rfl (fun ls hl => ?_)
                refine lv_iload_n hx hb dX0_writeEquations_39 rfl (lv_at hl 3 rfl) ?_
                have J63_16 : ∀ (v12 : Int32), v12 = (if (f_X6_isIn xfs (f_X0_otherAt xba i1)) = 0 then 0 else (if (f_X6_isIn xfs (f_X0_otherAt xba i5)) = 0 then 0 else 1)) → ∀ (H : Heap) (locs : List Loc), Wd D A s.heap H locs [(af, .inr (0, [.ref au, .ref afp, .ref afm, .ref afs, .ref aft, .ref afq, .int xfs, .int xba, .long xbe])), (afp, .inl (cJ, 25, .inr (.inl xpr))), (afm, .inl (cJ, 9, .inr (.inl w6))), (afs, .inl (cJ, 3, .inr (.inl w3))), (aft, .inl (cJ, 4, .inr (.inl xpt))), (afq, .inr (1, [.long xfa, .long xfb]))] → W p l e (rl 2) s m args below meth c H locs 0 0 Q (F0 m 63 ls [.int v12]) := by
                  intro v12 ev12 H locs w
                  have hr : ((fun (v14 : Int64) => L_X0_writeEquations_22 xfs xba xpr i1 n22 (i5 + 1) (vp_updL w6 (Int32.toNatClampNeg ((i1 * 3) + i5)) v14)) (if v12 = 0 then v9 else (f_X0_fromBase xba xpr (f_X0_otherAt xba i1) (f_X0_otherAt xba i5)))) = y22 := by subst ev12; exact hr
                  refine lv_istore (lv' := [(6, .int v12), (4, .long v9), (0, .ref af), (1, .int i1), (2, .int (f_X6_isIn xfs (f_X0_otherAt xba i1))), (3, .int i5)]) hx hb dX0_writeEquations_63 hl (by decide) rfl (fun ls hl => ?_)
                  refine lv_aload_n hx hb dX0_writeEquations_65 rfl (lv_at hl 2 rfl) ?_
                  refine fr_get C w fg_X0_19 0 rfl rfl dX0_writeEquations_66 ?_
                  refine lv_iload_n hx hb dX0_writeEquations_69 rfl (lv_at hl 3 rfl) ?_
                  refine lv_iconst (v := 3) hx hb dX0_writeEquations_70 (by decide) ?_
                  refine lv_imul hx hb dX0_writeEquations_71 ?_
                  refine lv_iload_n hx hb dX0_writeEquations_72 rfl (lv_at hl 5 rfl) ?_
                  refine lv_iadd hx hb dX0_writeEquations_73 ?_
                  refine lv_iload hx hb dX0_writeEquations_74 (lv_at hl 0 rfl) ?_
                  have J98_15 : ∀ (v14 : Int64), v14 = (if v12 = 0 then v9 else (f_X0_fromBase xba xpr (f_X0_otherAt xba i1) (f_X0_otherAt xba i5))) → ∀ (H : Heap) (locs : List Loc), Wd D A s.heap H locs [(af, .inr (0, [.ref au, .ref afp, .ref afm, .ref afs, .ref aft, .ref afq, .int xfs, .int xba, .long xbe])), (afp, .inl (cJ, 25, .inr (.inl xpr))), (afm, .inl (cJ, 9, .inr (.inl w6))), (afs, .inl (cJ, 3, .inr (.inl w3))), (aft, .inl (cJ, 4, .inr (.inl xpt))), (afq, .inr (1, [.long xfa, .long xfb]))] → W p l e (rl 2) s m args below meth c H locs 0 0 Q (F0 m 98 ls [.long v14, .int ((i1 * 3) + i5), .ref afm]) := by
                    intro v14 ev14 H locs w
                    have hr : L_X0_writeEquations_22 xfs xba xpr i1 n22 (i5 + 1) (vp_updL w6 (Int32.toNatClampNeg ((i1 * 3) + i5)) v14) = y22 := by subst ev14; exact hr
                    refine fr_last C w 2 rfl (vi_lin hk2 hk22 (cn := 3) (by decide) (by omega) (by decide)) (ws' := [(af, .inr (0, [.ref au, .ref afp, .ref afm, .ref afs, .ref aft, .ref afq, .int xfs, .int xba, .long xbe])), (afp, .inl (cJ, 25, .inr (.inl xpr))), (afm, .inl (cJ, 9, .inr (.inl (vp_updL w6 (Int32.toNatClampNeg ((i1 * 3) + i5)) v14)))), (afs, .inl (cJ, 3, .inr (.inl w3))), (aft, .inl (cJ, 4, .inr (.inl xpt))), (afq, .inr (1, [.long xfa, .long xfb]))]) rfl dX0_writeEquations_98 (fun H locs w => ?_)
                    refine lv_iinc (v := i5 + 1) (lv' := [(3, .int (i5 + 1)), (6, .int v12), (4, .long v9), (0, .ref af), (1, .int i1), (2, .int (f_X6_isIn xfs (f_X0_otherAt xba i1)))]) hx hb dX0_writeEquations_99 hl (k := 5) rfl rfl (by decide) rfl (fun ls hl => ?_)
                    refine lv_goto (tgt := 22) hx hb dX0_writeEquations_102 (by decide) ?_
                    exact ih22 (k22 + 1) (i5 + 1) (vp_updL w6 (Int32.toNatClampNeg ((i1 * 3) + i5)) v14) (by rw [hk22]; exact nI_1 k22) (by omega) (by omega) hr H locs w ls (lv_sub hl [3, 4, 5, 0] rfl)
                  refine lv_if_eq (tgt := 96) hx hb dX0_writeEquations_76 (by decide) (fun c76_13 => ?_) (fun c76_13 => ?_)
                  · refine lv_lload hx hb dX0_writeEquations_96 (lv_at hl 1 rfl) ?_
                    exact J98_15 v9 (by rw [if_pos c76_13]) _ _ w
                  · refine lv_aload_n hx hb dX0_writeEquations_79 rfl (lv_at hl 2 rfl) ?_
                    refine lv_aload_n hx hb dX0_writeEquations_80 rfl (lv_at hl 2 rfl) ?_
                    refine lv_iload_n hx hb dX0_writeEquations_81 rfl (lv_at hl 3 rfl) ?_
                    refine fr_callIV (As := [.int i1]) (rest := [.ref af, .int ((i1 * 3) + i5), .ref afm]) C w kf_X0_otherAt mw_18_17 (c_X0_otherAt l D cI cJ af au afp afm afs aft afq xfs xba xbe xpr w6 w3 xpt xfa xfb i1) ⟨Nat.le_of_ble_eq_true rfl, Nat.le_of_ble_eq_true rfl⟩ ⟨Nat.le_refl 0, Nat.le_refl 0⟩ [0, 1, 2, 3, 4, 5] rfl rfl rfl (ws' := [(af, .inr (0, [.ref au, .ref afp, .ref afm, .ref afs, .ref aft, .ref afq, .int xfs, .int xba, .long xbe])), (afp, .inl (cJ, 25, .inr (.inl xpr))), (afm, .inl (cJ, 9, .inr (.inl w6))), (afs, .inl (cJ, 3, .inr (.inl w3))), (aft, .inl (cJ, 4, .inr (.inl xpt))), (afq, .inr (1, [.long xfa, .long xfb]))]) rfl rfl rfl rfl hl.1 rfl (Nat.le_of_ble_eq_true rfl) dX0_writeEquations_82 (fun H locs w => ?_)
                    refine lv_aload_n hx hb dX0_writeEquations_85 rfl (lv_at hl 2 rfl) ?_
                    refine lv_iload_n hx hb dX0_writeEquations_86 rfl (lv_at hl 5 rfl) ?_
                    refine fr_callIV (As := [.int i5]) (rest := [.int (f_X0_otherAt xba i1), .ref af, .int ((i1 * 3) + i5), .ref afm]) C w kf_X0_otherAt mw_18_17 (c_X0_otherAt l D cI cJ af au afp afm afs aft afq xfs xba xbe xpr w6 w3 xpt xfa xfb i5) ⟨Nat.le_of_ble_eq_true rfl, Nat.le_of_ble_eq_true rfl⟩ ⟨Nat.le_refl 0, Nat.le_refl 0⟩ [0, 1, 2, 3, 4, 5] rfl rfl rfl (ws' := [(af, .inr (0, [.ref au, .ref afp, .ref afm, .ref afs, .ref aft, .ref afq, .int xfs, .int xba, .long xbe])), (afp, .inl (cJ, 25, .inr (.inl xpr))), (afm, .inl (cJ, 9, .inr (.inl w6))), (afs, .inl (cJ, 3, .inr (.inl w3))), (aft, .inl (cJ, 4, .inr (.inl xpt))), (afq, .inr (1, [.long xfa, .long xfb]))]) rfl rfl rfl rfl hl.1 rfl (Nat.le_of_ble_eq_true rfl) dX0_writeEquations_87 (fun H locs w => ?_)
                    refine fr_callLV (As := [.int (f_X0_otherAt xba i1), .int (f_X0_otherAt xba i5)]) (rest := [.int ((i1 * 3) + i5), .ref afm]) C w kf_X0_fromBase mw_18_21 (c_X0_fromBase l D cI cJ af au afp afm afs aft afq xfs xba xbe xpr w6 w3 xpt xfa xfb (f_X0_otherAt xba i1) (f_X0_otherAt xba i5)) ⟨Nat.le_of_ble_eq_true rfl, Nat.le_of_ble_eq_true rfl⟩ ⟨Nat.le_refl 0, Nat.le_refl 0⟩ [0, 1, 2, 3, 4, 5] rfl rfl rfl (ws' := [(af, .inr (0, [.ref au, .ref afp, .ref afm, .ref afs, .ref aft, .ref afq, .int xfs, .int xba, .long xbe])), (afp, .inl (cJ, 25, .inr (.inl xpr))), (afm, .inl (cJ, 9, .inr (.inl w6))), (afs, .inl (cJ, 3, .inr (.inl w3))), (aft, .inl (cJ, 4, .inr (.inl xpt))), (afq, .inr (1, [.long xfa, .long xfb]))]) rfl rfl rfl rfl hl.1 rfl (Nat.le_of_ble_eq_true rfl) dX0_writeEquations_90 (fun H locs w => ?_)
                    refine lv_goto (tgt := 98) hx hb dX0_writeEquations_93 (by decide) ?_
                    exact J98_15 (f_X0_fromBase xba xpr (f_X0_otherAt xba i1) (f_X0_otherAt xba i5)) (by rw [if_neg c76_13]) _ _ w
                refine lv_if_eq (tgt := 62) hx hb dX0_writeEquations_40 (by decide) (fun c40_10 => ?_) (fun c40_10 => ?_)
                · refine lv_iconst (v := 0) hx hb dX0_writeEquations_62 (by decide) ?_
                  exact J63_16 0 (by rw [if_pos c40_10]) _ _ w
                · refine lv_aload_n hx hb dX0_writeEquations_43 rfl (lv_at hl 1 rfl) ?_
                  refine fr_get C w fg_X0_41 0 rfl rfl dX0_writeEquations_44 ?_
                  refine lv_aload_n hx hb dX0_writeEquations_47 rfl (lv_at hl 1 rfl) ?_
                  refine lv_iload_n hx hb dX0_writeEquations_48 rfl (lv_at hl 4 rfl) ?_
                  refine fr_callIV (As := [.int i5]) (rest := [.int xfs]) C w kf_X0_otherAt mw_18_17 (c_X0_otherAt l D cI cJ af au afp afm afs aft afq xfs xba xbe xpr w6 w3 xpt xfa xfb i5) ⟨Nat.le_of_ble_eq_true rfl, Nat.le_of_ble_eq_true rfl⟩ ⟨Nat.le_refl 0, Nat.le_refl 0⟩ [0, 1, 2, 3, 4, 5] rfl rfl rfl (ws' := [(af, .inr (0, [.ref au, .ref afp, .ref afm, .ref afs, .ref aft, .ref afq, .int xfs, .int xba, .long xbe])), (afp, .inl (cJ, 25, .inr (.inl xpr))), (afm, .inl (cJ, 9, .inr (.inl w6))), (afs, .inl (cJ, 3, .inr (.inl w3))), (aft, .inl (cJ, 4, .inr (.inl xpt))), (afq, .inr (1, [.long xfa, .long xfb]))]) rfl rfl rfl rfl hl.1 rfl (Nat.le_of_ble_eq_true rfl) dX0_writeEquations_49 (fun H locs w => ?_)
                  refine fr_callIN (As := [.int xfs, .int (f_X0_otherAt xba i5)]) (rest := []) C w kf_X6_isIn C.2.2.2.2.2.2.2 (c_X6_isIn l D cI cJ xfs (f_X0_otherAt xba i5)) ⟨Nat.le_of_ble_eq_true rfl, Nat.le_of_ble_eq_true rfl⟩ ⟨Nat.le_refl 0, Nat.le_refl 0⟩ [] rfl rfl rfl (ws' := [(af, .inr (0, [.ref au, .ref afp, .ref afm, .ref afs, .ref aft, .ref afq, .int xfs, .int xba, .long xbe])), (afp, .inl (cJ, 25, .inr (.inl xpr))), (afm, .inl (cJ, 9, .inr (.inl w6))), (afs, .inl (cJ, 3, .inr (.inl w3))), (aft, .inl (cJ, 4, .inr (.inl xpt))), (afq, .inr (1, [.long xfa, .long xfb]))]) rfl rfl hl.1 rfl (Nat.le_of_ble_eq_true rfl) dX0_writeEquations_52 (fun H locs w => ?_)
                  refine lv_if_eq (tgt := 62) hx hb dX0_writeEquations_55 (by decide) (fun c55_11 => ?_) (fun c55_11 => ?_)
                  · refine lv_iconst (v := 0) hx hb dX0_writeEquations_62 (by decide) ?_
                    exact J63_16 0 (by rw [if_neg c40_10, if_pos c55_11]) _ _ w
                  · refine lv_iconst (v := 1) hx hb dX0_writeEquations_58 (by decide) ?_
                    refine lv_goto (tgt := 63) hx hb dX0_writeEquations_59 (by decide) ?_
                    exact J63_16 1 (by rw [if_neg c40_10, if_neg c55_11]) _ _ w
              refine lv_icmp_ne (tgt := 36) hx hb dX0_writeEquations_29 (by decide) (fun c29_8 => ?_) (fun c29_8 => ?_)
              · refine lv_lconst (v := 0) hx hb dX0_writeEquations_36 (by decide) ?_
                exact J37_17 0 (by rw [if_neg c29_8])
              · refine lv_lconst (v := 1) hx hb dX0_writeEquations_32 (by decide) ?_
                refine lv_goto (tgt := 37) hx hb dX0_writeEquations_33 (by decide) ?_
                exact J37_17 1 (by rw [if_pos c29_8])
        exact LP22 4 0 0 w2 (by decide) (by omega) (by omega) hy22.symm H locs w ls (lv_sub hl [2, 3, 1, 0] rfl)
  exact LP2 4 0 0 xmx xsd (by decide) (by omega) (by omega) hy2.symm H locs w ls (lv_sub hl [1, 0] rfl)
def L_X0_solveParts_18 (xmx : Nat → Int64) (xsd : Nat → Int64) (i2 : Int32) : Nat → Int64 → Int32 → Int64 × Int32
  | 0, _, _ => (0, 0)
  | n18 + 1, i5, i6 => (if 3 ≤ i6 then (i5, i6) else L_X0_solveParts_18 xmx xsd i2 n18 (i5 + ((f_X0_cofactor xmx i2 i6) * (xsd (Int32.toNatClampNeg i6)))) (i6 + 1))
def L_X0_solveParts_7 (xba : Int32) (xmx : Nat → Int64) (xsd : Nat → Int64) : Nat → Int64 → Int32 → (Nat → Int64) → Int64 × Int32 × (Nat → Int64)
  | 0, _, _, _ => (0, 0, fun _ => 0)
  | n7 + 1, i1, i2, w3 => (if 3 ≤ i2 then (i1, i2, w3) else ((fun (y18 : Int64 × Int32) => L_X0_solveParts_7 xba xmx xsd n7 (i1 - y18.1) (i2 + 1) (f_X0_putPart w3 (f_X0_otherAt xba i2) y18.1)) (L_X0_solveParts_18 xmx xsd i2 4 0 0)))
def f_X0_solveParts (xba : Int32) (xbe : Int64) (xmx : Nat → Int64) (xsd : Nat → Int64) (xpt : Nat → Int64) : (Nat → Int64) := ((fun (y7 : Int64 × Int32 × (Nat → Int64)) => (f_X0_putPart y7.2.2 xba y7.1)) (L_X0_solveParts_7 xba xmx xsd 4 xbe 0 xpt))
set_option maxRecDepth 100000 in
set_option maxHeartbeats 4000000 in
theorem c_X0_solveParts (l : Launch) (D : va_G) (cI cJ : ClassId) (af au afp afm afs aft afq : Nat) (xfs : Int32) (xba : Int32) (xbe : Int64) (xpr : Nat → Int64) (xmx : Nat → Int64) (xsd : Nat → Int64) (xpt : Nat → Int64) (xfa : Int64) (xfb : Int64)  : CV l yX0_solveParts cX0_solveParts 7 2 D cI cJ [.ref af] [(af, .inr (0, [.ref au, .ref afp, .ref afm, .ref afs, .ref aft, .ref afq, .int xfs, .int xba, .long xbe])), (afp, .inl (cJ, 25, .inr (.inl xpr))), (afm, .inl (cJ, 9, .inr (.inl xmx))), (afs, .inl (cJ, 3, .inr (.inl xsd))), (aft, .inl (cJ, 4, .inr (.inl xpt))), (afq, .inr (1, [.long xfa, .long xfb]))] [(af, .inr (0, [.ref au, .ref afp, .ref afm, .ref afs, .ref aft, .ref afq, .int xfs, .int xba, .long xbe])), (afp, .inl (cJ, 25, .inr (.inl xpr))), (afm, .inl (cJ, 9, .inr (.inl xmx))), (afs, .inl (cJ, 3, .inr (.inl xsd))), (aft, .inl (cJ, 4, .inr (.inl (f_X0_solveParts xba xbe xmx xsd xpt)))), (afq, .inr (1, [.long xfa, .long xfb]))] := by
  generalize hr : f_X0_solveParts xba xbe xmx xsd xpt = r
  refine fr_entryV (by decide) rfl ?_
  intro p e s m args below meth c A Q H locs hQ C hret hlk w ls hl
  have hx := C.1
  have hb := C.2.1
  have hl : lv_has ls 7 [(0, .ref af)] := hl
  have hr : ((fun (y7 : Int64 × Int32 × (Nat → Int64)) => (f_X0_putPart y7.2.2 xba y7.1)) (L_X0_solveParts_7 xba xmx xsd 4 xbe 0 xpt)) = r := hr
  refine lv_aload_n hx hb dX0_solveParts_0 rfl (lv_at hl 0 rfl) ?_
  refine fr_get C w fg_X0_59 0 rfl rfl dX0_solveParts_1 ?_
  refine lv_lstore_n (lv' := [(1, .long xbe), (0, .ref af)]) hx hb dX0_solveParts_4 rfl hl (by decide) rfl (fun ls hl => ?_)
  refine lv_iconst (v := 0) hx hb dX0_solveParts_5 (by decide) ?_
  refine lv_istore_n (lv' := [(3, .int 0), (1, .long xbe), (0, .ref af)]) hx hb dX0_solveParts_6 rfl hl (by decide) rfl (fun ls hl => ?_)
  obtain ⟨y7, hy7⟩ : ∃ y, y = L_X0_solveParts_7 xba xmx xsd 4 xbe 0 xpt := ⟨_, rfl⟩
  have hr : (f_X0_putPart y7.2.2 xba y7.1) = r := by rw [hy7]; exact hr
  have X7 : ∀ (H : Heap) (locs : List Loc), Wd D A s.heap H locs [(af, .inr (0, [.ref au, .ref afp, .ref afm, .ref afs, .ref aft, .ref afq, .int xfs, .int xba, .long xbe])), (afp, .inl (cJ, 25, .inr (.inl xpr))), (afm, .inl (cJ, 9, .inr (.inl xmx))), (afs, .inl (cJ, 3, .inr (.inl xsd))), (aft, .inl (cJ, 4, .inr (.inl y7.2.2))), (afq, .inr (1, [.long xfa, .long xfb]))] → ∀ (ls : Array Slot), lv_has ls 7 [(0, .ref af), (1, .long y7.1), (3, .int y7.2.1)] → W p l e (rl 2) s m args below meth c H locs 0 0 Q (F0 m 72 ls []) := by
    intro H locs w ls hl
    refine lv_aload_n hx hb dX0_solveParts_72 rfl (lv_at hl 0 rfl) ?_
    refine lv_aload_n hx hb dX0_solveParts_73 rfl (lv_at hl 0 rfl) ?_
    refine fr_get C w fg_X0_49 0 rfl rfl dX0_solveParts_74 ?_
    refine lv_lload_n hx hb dX0_solveParts_77 rfl (lv_at hl 1 rfl) ?_
    refine fr_callVV (As := [.int xba, .long y7.1]) (rest := []) C w kf_X0_putPart mw_19_21 (c_X0_putPart l D cI cJ af au afp afm afs aft afq xfs xba xbe xpr xmx xsd y7.2.2 xfa xfb xba y7.1) ⟨Nat.le_of_ble_eq_true rfl, Nat.le_of_ble_eq_true rfl⟩ ⟨Nat.le_refl 0, Nat.le_refl 0⟩ [0, 1, 2, 3, 4, 5] rfl rfl rfl (ws' := [(af, .inr (0, [.ref au, .ref afp, .ref afm, .ref afs, .ref aft, .ref afq, .int xfs, .int xba, .long xbe])), (afp, .inl (cJ, 25, .inr (.inl xpr))), (afm, .inl (cJ, 9, .inr (.inl xmx))), (afs, .inl (cJ, 3, .inr (.inl xsd))), (aft, .inl (cJ, 4, .inr (.inl (f_X0_putPart y7.2.2 xba y7.1)))), (afq, .inr (1, [.long xfa, .long xfb]))]) rfl rfl rfl rfl hl.1 rfl (Nat.le_of_ble_eq_true rfl) dX0_solveParts_78 (fun H locs w => ?_)
    subst hr hQ
    exact fr_vret C hret hlk w rfl dX0_solveParts_81
  have LP7 : ∀ (n7 : Nat) (k7 : Nat) (i1 : Int64) (i2 : Int32) (w3 : Nat → Int64), i2 = nI k7 → k7 ≤ 3 → 3 < k7 + n7 → L_X0_solveParts_7 xba xmx xsd n7 i1 i2 w3 = y7 → ∀ (H : Heap) (locs : List Loc), Wd D A s.heap H locs [(af, .inr (0, [.ref au, .ref afp, .ref afm, .ref afs, .ref aft, .ref afq, .int xfs, .int xba, .long xbe])), (afp, .inl (cJ, 25, .inr (.inl xpr))), (afm, .inl (cJ, 9, .inr (.inl xmx))), (afs, .inl (cJ, 3, .inr (.inl xsd))), (aft, .inl (cJ, 4, .inr (.inl w3))), (afq, .inr (1, [.long xfa, .long xfb]))] → ∀ (ls : Array Slot), lv_has ls 7 [(0, .ref af), (1, .long i1), (3, .int i2)] → W p l e (rl 2) s m args below meth c H locs 0 0 Q (F0 m 7 ls []) := by
    clear hr
    intro n7
    induction n7 with
    | zero => intro k7 i1 i2 w3 hk7 hkN7 hn7; exact absurd hn7 (by omega)
    | succ n7 ih7 =>
      intro k7 i1 i2 w3 hk7 hkN7 hn7 hr H locs w ls hl
      have hr : (if 3 ≤ i2 then (i1, i2, w3) else ((fun (y18 : Int64 × Int32) => L_X0_solveParts_7 xba xmx xsd n7 (i1 - y18.1) (i2 + 1) (f_X0_putPart w3 (f_X0_otherAt xba i2) y18.1)) (L_X0_solveParts_18 xmx xsd i2 4 0 0))) = y7 := hr
      refine lv_iload_n hx hb dX0_solveParts_7 rfl (lv_at hl 2 rfl) ?_
      refine lv_iconst (v := 3) hx hb dX0_solveParts_8 (by decide) ?_
      refine lv_icmp_ge (tgt := 72) hx hb dX0_solveParts_9 (by decide) (fun c9_4 => ?_) (fun c9_4 => ?_)
      · have hr := (if_pos c9_4).symm.trans hr
        subst hr
        exact X7 H locs w ls (lv_sub hl [0, 1, 2] rfl)
      · have hr := (if_neg c9_4).symm.trans hr
        have hkl7 := kl_of hk7 hkN7 (N := 3) (by decide) (by omega) c9_4
        refine lv_lconst (v := 0) hx hb dX0_solveParts_12 (by decide) ?_
        refine lv_lstore (lv' := [(4, .long 0), (0, .ref af), (1, .long i1), (3, .int i2)]) hx hb dX0_solveParts_13 hl (by decide) rfl (fun ls hl => ?_)
        refine lv_iconst (v := 0) hx hb dX0_solveParts_15 (by decide) ?_
        refine lv_istore (lv' := [(6, .int 0), (4, .long 0), (0, .ref af), (1, .long i1), (3, .int i2)]) hx hb dX0_solveParts_16 hl (by decide) rfl (fun ls hl => ?_)
        obtain ⟨y18, hy18⟩ : ∃ y, y = L_X0_solveParts_18 xmx xsd i2 4 0 0 := ⟨_, rfl⟩
        have hr : L_X0_solveParts_7 xba xmx xsd n7 (i1 - y18.1) (i2 + 1) (f_X0_putPart w3 (f_X0_otherAt xba i2) y18.1) = y7 := by rw [hy18]; exact hr
        have X18 : ∀ (H : Heap) (locs : List Loc), Wd D A s.heap H locs [(af, .inr (0, [.ref au, .ref afp, .ref afm, .ref afs, .ref aft, .ref afq, .int xfs, .int xba, .long xbe])), (afp, .inl (cJ, 25, .inr (.inl xpr))), (afm, .inl (cJ, 9, .inr (.inl xmx))), (afs, .inl (cJ, 3, .inr (.inl xsd))), (aft, .inl (cJ, 4, .inr (.inl w3))), (afq, .inr (1, [.long xfa, .long xfb]))] → ∀ (ls : Array Slot), lv_has ls 7 [(0, .ref af), (1, .long i1), (3, .int i2), (4, .long y18.1), (6, .int y18.2)] → W p l e (rl 2) s m args below meth c H locs 0 0 Q (F0 m 50 ls []) := by
          intro H locs w ls hl
          refine lv_aload_n hx hb dX0_solveParts_50 rfl (lv_at hl 0 rfl) ?_
          refine lv_aload_n hx hb dX0_solveParts_51 rfl (lv_at hl 0 rfl) ?_
          refine lv_iload_n hx hb dX0_solveParts_52 rfl (lv_at hl 2 rfl) ?_
          refine fr_callIV (As := [.int i2]) (rest := [.ref af]) C w kf_X0_otherAt mw_18_17 (c_X0_otherAt l D cI cJ af au afp afm afs aft afq xfs xba xbe xpr xmx xsd w3 xfa xfb i2) ⟨Nat.le_of_ble_eq_true rfl, Nat.le_of_ble_eq_true rfl⟩ ⟨Nat.le_refl 0, Nat.le_refl 0⟩ [0, 1, 2, 3, 4, 5] rfl rfl rfl (ws' := [(af, .inr (0, [.ref au, .ref afp, .ref afm, .ref afs, .ref aft, .ref afq, .int xfs, .int xba, .long xbe])), (afp, .inl (cJ, 25, .inr (.inl xpr))), (afm, .inl (cJ, 9, .inr (.inl xmx))), (afs, .inl (cJ, 3, .inr (.inl xsd))), (aft, .inl (cJ, 4, .inr (.inl w3))), (afq, .inr (1, [.long xfa, .long xfb]))]) rfl rfl rfl rfl hl.1 rfl (Nat.le_of_ble_eq_true rfl) dX0_solveParts_53 (fun H locs w => ?_)
          refine lv_lload hx hb dX0_solveParts_56 (lv_at hl 3 rfl) ?_
          refine fr_callVV (As := [.int (f_X0_otherAt xba i2), .long y18.1]) (rest := []) C w kf_X0_putPart mw_19_21 (c_X0_putPart l D cI cJ af au afp afm afs aft afq xfs xba xbe xpr xmx xsd w3 xfa xfb (f_X0_otherAt xba i2) y18.1) ⟨Nat.le_of_ble_eq_true rfl, Nat.le_of_ble_eq_true rfl⟩ ⟨Nat.le_refl 0, Nat.le_refl 0⟩ [0, 1, 2, 3, 4, 5] rfl rfl rfl (ws' := [(af, .inr (0, [.ref au, .ref afp, .ref afm, .ref afs, .ref aft, .ref afq, .int xfs, .int xba, .long xbe])), (afp, .inl (cJ, 25, .inr (.inl xpr))), (afm, .inl (cJ, 9, .inr (.inl xmx))), (afs, .inl (cJ, 3, .inr (.inl xsd))), (aft, .inl (cJ, 4, .inr (.inl (f_X0_putPart w3 (f_X0_otherAt xba i2) y18.1)))), (afq, .inr (1, [.long xfa, .long xfb]))]) rfl rfl rfl rfl hl.1 rfl (Nat.le_of_ble_eq_true rfl) dX0_solveParts_58 (fun H locs w => ?_)
          refine lv_lload_n hx hb dX0_solveParts_61 rfl (lv_at hl 1 rfl) ?_
          refine lv_lload hx hb dX0_solveParts_62 (lv_at hl 3 rfl) ?_
          refine lv_lsub hx hb dX0_solveParts_64 ?_
          refine lv_lstore_n (lv' := [(1, .long (i1 - y18.1)), (0, .ref af), (3, .int i2), (4, .long y18.1), (6, .int y18.2)]) hx hb dX0_solveParts_65 rfl hl (by decide) rfl (fun ls hl => ?_)
          refine lv_iinc (v := i2 + 1) (lv' := [(3, .int (i2 + 1)), (1, .long (i1 - y18.1)), (0, .ref af), (4, .long y18.1), (6, .int y18.2)]) hx hb dX0_solveParts_66 hl (k := 2) rfl rfl (by decide) rfl (fun ls hl => ?_)
          refine lv_goto (tgt := 7) hx hb dX0_solveParts_69 (by decide) ?_
          exact ih7 (k7 + 1) (i1 - y18.1) (i2 + 1) (f_X0_putPart w3 (f_X0_otherAt xba i2) y18.1) (by rw [hk7]; exact nI_1 k7) (by omega) (by omega) hr H locs w ls (lv_sub hl [2, 1, 0] rfl)
        have LP18 : ∀ (n18 : Nat) (k18 : Nat) (i5 : Int64) (i6 : Int32), i6 = nI k18 → k18 ≤ 3 → 3 < k18 + n18 → L_X0_solveParts_18 xmx xsd i2 n18 i5 i6 = y18 → ∀ (H : Heap) (locs : List Loc), Wd D A s.heap H locs [(af, .inr (0, [.ref au, .ref afp, .ref afm, .ref afs, .ref aft, .ref afq, .int xfs, .int xba, .long xbe])), (afp, .inl (cJ, 25, .inr (.inl xpr))), (afm, .inl (cJ, 9, .inr (.inl xmx))), (afs, .inl (cJ, 3, .inr (.inl xsd))), (aft, .inl (cJ, 4, .inr (.inl w3))), (afq, .inr (1, [.long xfa, .long xfb]))] → ∀ (ls : Array Slot), lv_has ls 7 [(0, .ref af), (1, .long i1), (3, .int i2), (4, .long i5), (6, .int i6)] → W p l e (rl 2) s m args below meth c H locs 0 0 Q (F0 m 18 ls []) := by
          clear hr
          intro n18
          induction n18 with
          | zero => intro k18 i5 i6 hk18 hkN18 hn18; exact absurd hn18 (by omega)
          | succ n18 ih18 =>
            intro k18 i5 i6 hk18 hkN18 hn18 hr H locs w ls hl
            have hr : (if 3 ≤ i6 then (i5, i6) else L_X0_solveParts_18 xmx xsd i2 n18 (i5 + ((f_X0_cofactor xmx i2 i6) * (xsd (Int32.toNatClampNeg i6)))) (i6 + 1)) = y18 := hr
            refine lv_iload hx hb dX0_solveParts_18 (lv_at hl 4 rfl) ?_
            refine lv_iconst (v := 3) hx hb dX0_solveParts_20 (by decide) ?_
            refine lv_icmp_ge (tgt := 50) hx hb dX0_solveParts_21 (by decide) (fun c21_7 => ?_) (fun c21_7 => ?_)
            · have hr := (if_pos c21_7).symm.trans hr
              subst hr
              exact X18 H locs w ls (lv_sub hl [0, 1, 2, 3, 4] rfl)
            · have hr := (if_neg c21_7).symm.trans hr
              have hkl18 := kl_of hk18 hkN18 (N := 3) (by decide) (by omega) c21_7
              refine lv_lload hx hb dX0_solveParts_24 (lv_at hl 3 rfl) ?_
              refine lv_aload_n hx hb dX0_solveParts_26 rfl (lv_at hl 0 rfl) ?_
              refine lv_iload_n hx hb dX0_solveParts_27 rfl (lv_at hl 2 rfl) ?_
              refine lv_iload hx hb dX0_solveParts_28 (lv_at hl 4 rfl) ?_
              refine fr_callLV (As := [.int i2, .int i6]) (rest := [.long i5]) C w kf_X0_cofactor mw_19_9 (c_X0_cofactor l D cI cJ af au afp afm afs aft afq xfs xba xbe xpr xmx xsd w3 xfa xfb i2 i6) ⟨Nat.le_of_ble_eq_true rfl, Nat.le_of_ble_eq_true rfl⟩ ⟨Nat.le_refl 0, Nat.le_refl 0⟩ [0, 1, 2, 3, 4, 5] rfl rfl rfl (ws' := [(af, .inr (0, [.ref au, .ref afp, .ref afm, .ref afs, .ref aft, .ref afq, .int xfs, .int xba, .long xbe])), (afp, .inl (cJ, 25, .inr (.inl xpr))), (afm, .inl (cJ, 9, .inr (.inl xmx))), (afs, .inl (cJ, 3, .inr (.inl xsd))), (aft, .inl (cJ, 4, .inr (.inl w3))), (afq, .inr (1, [.long xfa, .long xfb]))]) rfl rfl rfl rfl hl.1 rfl (Nat.le_of_ble_eq_true rfl) dX0_solveParts_30 (fun H locs w => ?_)
              refine lv_aload_n hx hb dX0_solveParts_33 rfl (lv_at hl 0 rfl) ?_
              refine fr_get C w fg_X0_22 0 rfl rfl dX0_solveParts_34 ?_
              refine lv_iload hx hb dX0_solveParts_37 (lv_at hl 4 rfl) ?_
              refine fr_lald C w 3 rfl (vi_ctr hk18 hkl18 (by decide) (by decide)) dX0_solveParts_39 ?_
              refine lv_lmul hx hb dX0_solveParts_40 ?_
              refine lv_ladd hx hb dX0_solveParts_41 ?_
              refine lv_lstore (lv' := [(4, .long (i5 + ((f_X0_cofactor xmx i2 i6) * (xsd (Int32.toNatClampNeg i6))))), (0, .ref af), (1, .long i1), (3, .int i2), (6, .int i6)]) hx hb dX0_solveParts_42 hl (by decide) rfl (fun ls hl => ?_)
              refine lv_iinc (v := i6 + 1) (lv' := [(6, .int (i6 + 1)), (4, .long (i5 + ((f_X0_cofactor xmx i2 i6) * (xsd (Int32.toNatClampNeg i6))))), (0, .ref af), (1, .long i1), (3, .int i2)]) hx hb dX0_solveParts_44 hl (k := 4) rfl rfl (by decide) rfl (fun ls hl => ?_)
              refine lv_goto (tgt := 18) hx hb dX0_solveParts_47 (by decide) ?_
              exact ih18 (k18 + 1) (i5 + ((f_X0_cofactor xmx i2 i6) * (xsd (Int32.toNatClampNeg i6)))) (i6 + 1) (by rw [hk18]; exact nI_1 k18) (by omega) (by omega) hr H locs w ls (lv_sub hl [2, 3, 4, 1, 0] rfl)
        exact LP18 4 0 0 0 (by decide) (by omega) (by omega) hy18.symm H locs w ls (lv_sub hl [2, 3, 4, 1, 0] rfl)
  exact LP7 4 0 xbe 0 xpt (by decide) (by omega) (by omega) hy7.symm H locs w ls (lv_sub hl [2, 1, 0] rfl)
def L_X0_misfitAbove_14 (xba : Int32) (xsd : Nat → Int64) (xpt : Nat → Int64) : Nat → Int64 → Int32 → Int64 × Int32
  | 0, _, _ => (0, 0)
  | n14 + 1, i1, i2 => (if 3 ≤ i2 then (i1, i2) else L_X0_misfitAbove_14 xba xsd xpt n14 (i1 - ((xsd (Int32.toNatClampNeg i2)) * (f_X0_partOf xpt (f_X0_otherAt xba i2)))) (i2 + 1))
def f_X0_misfitAbove (xba : Int32) (xbe : Int64) (xpr : Nat → Int64) (xsd : Nat → Int64) (xpt : Nat → Int64) : Int64 := ((fun (y14 : Int64 × Int32) => y14.1) (L_X0_misfitAbove_14 xba xsd xpt 4 (xbe * (f_X0_fromBase xba xpr 4 4)) 0))
set_option maxRecDepth 100000 in
set_option maxHeartbeats 4000000 in
theorem c_X0_misfitAbove (l : Launch) (D : va_G) (cI cJ : ClassId) (af au afp afm afs aft afq : Nat) (xfs : Int32) (xba : Int32) (xbe : Int64) (xpr : Nat → Int64) (xmx : Nat → Int64) (xsd : Nat → Int64) (xpt : Nat → Int64) (xfa : Int64) (xfb : Int64)  : CL l yX0_misfitAbove cX0_misfitAbove 4 2 D cI cJ [.ref af] [(af, .inr (0, [.ref au, .ref afp, .ref afm, .ref afs, .ref aft, .ref afq, .int xfs, .int xba, .long xbe])), (afp, .inl (cJ, 25, .inr (.inl xpr))), (afm, .inl (cJ, 9, .inr (.inl xmx))), (afs, .inl (cJ, 3, .inr (.inl xsd))), (aft, .inl (cJ, 4, .inr (.inl xpt))), (afq, .inr (1, [.long xfa, .long xfb]))] [(af, .inr (0, [.ref au, .ref afp, .ref afm, .ref afs, .ref aft, .ref afq, .int xfs, .int xba, .long xbe])), (afp, .inl (cJ, 25, .inr (.inl xpr))), (afm, .inl (cJ, 9, .inr (.inl xmx))), (afs, .inl (cJ, 3, .inr (.inl xsd))), (aft, .inl (cJ, 4, .inr (.inl xpt))), (afq, .inr (1, [.long xfa, .long xfb]))] (f_X0_misfitAbove xba xbe xpr xsd xpt) := by
  generalize hr : f_X0_misfitAbove xba xbe xpr xsd xpt = r
  refine fr_entryL (by decide) rfl ?_
  intro p e s m args below meth c A Q H locs hQ C hret hlk w ls hl
  have hx := C.1
  have hb := C.2.1
  have hl : lv_has ls 4 [(0, .ref af)] := hl
  have hr : ((fun (y14 : Int64 × Int32) => y14.1) (L_X0_misfitAbove_14 xba xsd xpt 4 (xbe * (f_X0_fromBase xba xpr 4 4)) 0)) = r := hr
  refine lv_aload_n hx hb dX0_misfitAbove_0 rfl (lv_at hl 0 rfl) ?_
  refine fr_get C w fg_X0_59 0 rfl rfl dX0_misfitAbove_1 ?_
  refine lv_aload_n hx hb dX0_misfitAbove_4 rfl (lv_at hl 0 rfl) ?_
  refine lv_iconst (v := 4) hx hb dX0_misfitAbove_5 (by decide) ?_
  refine lv_iconst (v := 4) hx hb dX0_misfitAbove_6 (by decide) ?_
  refine fr_callLV (As := [.int 4, .int 4]) (rest := [.long xbe]) C w kf_X0_fromBase mw_18_21 (c_X0_fromBase l D cI cJ af au afp afm afs aft afq xfs xba xbe xpr xmx xsd xpt xfa xfb 4 4) ⟨Nat.le_of_ble_eq_true rfl, Nat.le_of_ble_eq_true rfl⟩ ⟨Nat.le_refl 0, Nat.le_refl 0⟩ [0, 1, 2, 3, 4, 5] rfl rfl rfl (ws' := [(af, .inr (0, [.ref au, .ref afp, .ref afm, .ref afs, .ref aft, .ref afq, .int xfs, .int xba, .long xbe])), (afp, .inl (cJ, 25, .inr (.inl xpr))), (afm, .inl (cJ, 9, .inr (.inl xmx))), (afs, .inl (cJ, 3, .inr (.inl xsd))), (aft, .inl (cJ, 4, .inr (.inl xpt))), (afq, .inr (1, [.long xfa, .long xfb]))]) rfl rfl rfl rfl hl.1 rfl (Nat.le_of_ble_eq_true rfl) dX0_misfitAbove_7 (fun H locs w => ?_)
  refine lv_lmul hx hb dX0_misfitAbove_10 ?_
  refine lv_lstore_n (lv' := [(1, .long (xbe * (f_X0_fromBase xba xpr 4 4))), (0, .ref af)]) hx hb dX0_misfitAbove_11 rfl hl (by decide) rfl (fun ls hl => ?_)
  refine lv_iconst (v := 0) hx hb dX0_misfitAbove_12 (by decide) ?_
  refine lv_istore_n (lv' := [(3, .int 0), (1, .long (xbe * (f_X0_fromBase xba xpr 4 4))), (0, .ref af)]) hx hb dX0_misfitAbove_13 rfl hl (by decide) rfl (fun ls hl => ?_)
  obtain ⟨y14, hy14⟩ : ∃ y, y = L_X0_misfitAbove_14 xba xsd xpt 4 (xbe * (f_X0_fromBase xba xpr 4 4)) 0 := ⟨_, rfl⟩
  have hr : y14.1 = r := by rw [hy14]; exact hr
  have X14 : ∀ (H : Heap) (locs : List Loc), Wd D A s.heap H locs [(af, .inr (0, [.ref au, .ref afp, .ref afm, .ref afs, .ref aft, .ref afq, .int xfs, .int xba, .long xbe])), (afp, .inl (cJ, 25, .inr (.inl xpr))), (afm, .inl (cJ, 9, .inr (.inl xmx))), (afs, .inl (cJ, 3, .inr (.inl xsd))), (aft, .inl (cJ, 4, .inr (.inl xpt))), (afq, .inr (1, [.long xfa, .long xfb]))] → ∀ (ls : Array Slot), lv_has ls 4 [(0, .ref af), (1, .long y14.1), (3, .int y14.2)] → W p l e (rl 2) s m args below meth c H locs 0 0 Q (F0 m 44 ls []) := by
    intro H locs w ls hl
    refine lv_lload_n hx hb dX0_misfitAbove_44 rfl (lv_at hl 1 rfl) ?_
    subst hr hQ
    exact fr_lret C hret hlk w rfl rfl dX0_misfitAbove_45
  have LP14 : ∀ (n14 : Nat) (k14 : Nat) (i1 : Int64) (i2 : Int32), i2 = nI k14 → k14 ≤ 3 → 3 < k14 + n14 → L_X0_misfitAbove_14 xba xsd xpt n14 i1 i2 = y14 → ∀ (H : Heap) (locs : List Loc), Wd D A s.heap H locs [(af, .inr (0, [.ref au, .ref afp, .ref afm, .ref afs, .ref aft, .ref afq, .int xfs, .int xba, .long xbe])), (afp, .inl (cJ, 25, .inr (.inl xpr))), (afm, .inl (cJ, 9, .inr (.inl xmx))), (afs, .inl (cJ, 3, .inr (.inl xsd))), (aft, .inl (cJ, 4, .inr (.inl xpt))), (afq, .inr (1, [.long xfa, .long xfb]))] → ∀ (ls : Array Slot), lv_has ls 4 [(0, .ref af), (1, .long i1), (3, .int i2)] → W p l e (rl 2) s m args below meth c H locs 0 0 Q (F0 m 14 ls []) := by
    clear hr
    intro n14
    induction n14 with
    | zero => intro k14 i1 i2 hk14 hkN14 hn14; exact absurd hn14 (by omega)
    | succ n14 ih14 =>
      intro k14 i1 i2 hk14 hkN14 hn14 hr H locs w ls hl
      have hr : (if 3 ≤ i2 then (i1, i2) else L_X0_misfitAbove_14 xba xsd xpt n14 (i1 - ((xsd (Int32.toNatClampNeg i2)) * (f_X0_partOf xpt (f_X0_otherAt xba i2)))) (i2 + 1)) = y14 := hr
      refine lv_iload_n hx hb dX0_misfitAbove_14 rfl (lv_at hl 2 rfl) ?_
      refine lv_iconst (v := 3) hx hb dX0_misfitAbove_15 (by decide) ?_
      refine lv_icmp_ge (tgt := 44) hx hb dX0_misfitAbove_16 (by decide) (fun c16_3 => ?_) (fun c16_3 => ?_)
      · have hr := (if_pos c16_3).symm.trans hr
        subst hr
        exact X14 H locs w ls (lv_sub hl [0, 1, 2] rfl)
      · have hr := (if_neg c16_3).symm.trans hr
        have hkl14 := kl_of hk14 hkN14 (N := 3) (by decide) (by omega) c16_3
        refine lv_lload_n hx hb dX0_misfitAbove_19 rfl (lv_at hl 1 rfl) ?_
        refine lv_aload_n hx hb dX0_misfitAbove_20 rfl (lv_at hl 0 rfl) ?_
        refine fr_get C w fg_X0_22 0 rfl rfl dX0_misfitAbove_21 ?_
        refine lv_iload_n hx hb dX0_misfitAbove_24 rfl (lv_at hl 2 rfl) ?_
        refine fr_lald C w 3 rfl (vi_ctr hk14 hkl14 (by decide) (by decide)) dX0_misfitAbove_25 ?_
        refine lv_aload_n hx hb dX0_misfitAbove_26 rfl (lv_at hl 0 rfl) ?_
        refine lv_aload_n hx hb dX0_misfitAbove_27 rfl (lv_at hl 0 rfl) ?_
        refine lv_iload_n hx hb dX0_misfitAbove_28 rfl (lv_at hl 2 rfl) ?_
        refine fr_callIV (As := [.int i2]) (rest := [.ref af, .long (xsd (Int32.toNatClampNeg i2)), .long i1]) C w kf_X0_otherAt mw_18_17 (c_X0_otherAt l D cI cJ af au afp afm afs aft afq xfs xba xbe xpr xmx xsd xpt xfa xfb i2) ⟨Nat.le_of_ble_eq_true rfl, Nat.le_of_ble_eq_true rfl⟩ ⟨Nat.le_refl 0, Nat.le_refl 0⟩ [0, 1, 2, 3, 4, 5] rfl rfl rfl (ws' := [(af, .inr (0, [.ref au, .ref afp, .ref afm, .ref afs, .ref aft, .ref afq, .int xfs, .int xba, .long xbe])), (afp, .inl (cJ, 25, .inr (.inl xpr))), (afm, .inl (cJ, 9, .inr (.inl xmx))), (afs, .inl (cJ, 3, .inr (.inl xsd))), (aft, .inl (cJ, 4, .inr (.inl xpt))), (afq, .inr (1, [.long xfa, .long xfb]))]) rfl rfl rfl rfl hl.1 rfl (Nat.le_of_ble_eq_true rfl) dX0_misfitAbove_29 (fun H locs w => ?_)
        refine fr_callLV (As := [.int (f_X0_otherAt xba i2)]) (rest := [.long (xsd (Int32.toNatClampNeg i2)), .long i1]) C w kf_X0_partOf mw_20_5 (c_X0_partOf l D cI cJ af au afp afm afs aft afq xfs xba xbe xpr xmx xsd xpt xfa xfb (f_X0_otherAt xba i2)) ⟨Nat.le_of_ble_eq_true rfl, Nat.le_of_ble_eq_true rfl⟩ ⟨Nat.le_refl 0, Nat.le_refl 0⟩ [0, 1, 2, 3, 4, 5] rfl rfl rfl (ws' := [(af, .inr (0, [.ref au, .ref afp, .ref afm, .ref afs, .ref aft, .ref afq, .int xfs, .int xba, .long xbe])), (afp, .inl (cJ, 25, .inr (.inl xpr))), (afm, .inl (cJ, 9, .inr (.inl xmx))), (afs, .inl (cJ, 3, .inr (.inl xsd))), (aft, .inl (cJ, 4, .inr (.inl xpt))), (afq, .inr (1, [.long xfa, .long xfb]))]) rfl rfl rfl rfl hl.1 rfl (Nat.le_of_ble_eq_true rfl) dX0_misfitAbove_32 (fun H locs w => ?_)
        refine lv_lmul hx hb dX0_misfitAbove_35 ?_
        refine lv_lsub hx hb dX0_misfitAbove_36 ?_
        refine lv_lstore_n (lv' := [(1, .long (i1 - ((xsd (Int32.toNatClampNeg i2)) * (f_X0_partOf xpt (f_X0_otherAt xba i2))))), (0, .ref af), (3, .int i2)]) hx hb dX0_misfitAbove_37 rfl hl (by decide) rfl (fun ls hl => ?_)
        refine lv_iinc (v := i2 + 1) (lv' := [(3, .int (i2 + 1)), (1, .long (i1 - ((xsd (Int32.toNatClampNeg i2)) * (f_X0_partOf xpt (f_X0_otherAt xba i2))))), (0, .ref af)]) hx hb dX0_misfitAbove_38 hl (k := 2) rfl rfl (by decide) rfl (fun ls hl => ?_)
        refine lv_goto (tgt := 14) hx hb dX0_misfitAbove_41 (by decide) ?_
        exact ih14 (k14 + 1) (i1 - ((xsd (Int32.toNatClampNeg i2)) * (f_X0_partOf xpt (f_X0_otherAt xba i2)))) (i2 + 1) (by rw [hk14]; exact nI_1 k14) (by omega) (by omega) hr H locs w ls (lv_sub hl [2, 1, 0] rfl)
  exact LP14 4 0 (xbe * (f_X0_fromBase xba xpr 4 4)) 0 (by decide) (by omega) (by omega) hy14.symm H locs w ls (lv_sub hl [2, 1, 0] rfl)
def f_X0_solve (xpr : Nat → Int64) (xmx : Nat → Int64) (xsd : Nat → Int64) (xpt : Nat → Int64) (q1 : Int32) : Int32 × Int32 × Int64 × (Nat → Int64) × (Nat → Int64) × (Nat → Int64) × Int64 × Int64 := ((fun (z14_1 : (Nat → Int64) × (Nat → Int64)) => ((fun (z41_2 : Int64 × Int64) => (q1, (f_X0_firstOf q1), (f_X0_determinant z14_1.1), z14_1.1, z14_1.2, (f_X0_solveParts (f_X0_firstOf q1) (f_X0_determinant z14_1.1) z14_1.1 z14_1.2 xpt), z41_2.1, z41_2.2)) (f_X1_put (f_X0_misfitAbove (f_X0_firstOf q1) (f_X0_determinant z14_1.1) xpr z14_1.2 (f_X0_solveParts (f_X0_firstOf q1) (f_X0_determinant z14_1.1) z14_1.1 z14_1.2 xpt)) (f_X0_determinant z14_1.1)))) (f_X0_writeEquations q1 (f_X0_firstOf q1) xpr xmx xsd))
set_option maxRecDepth 100000 in
set_option maxHeartbeats 4000000 in
theorem c_X0_solve (l : Launch) (D : va_G) (cI cJ : ClassId) (af au afp afm afs aft afq : Nat) (xfs : Int32) (xba : Int32) (xbe : Int64) (xpr : Nat → Int64) (xmx : Nat → Int64) (xsd : Nat → Int64) (xpt : Nat → Int64) (xfa : Int64) (xfb : Int64) (q1 : Int32) : CV l yX0_solve cX0_solve 2 3 D cI cJ [.ref af, .int q1] [(af, .inr (0, [.ref au, .ref afp, .ref afm, .ref afs, .ref aft, .ref afq, .int xfs, .int xba, .long xbe])), (afp, .inl (cJ, 25, .inr (.inl xpr))), (afm, .inl (cJ, 9, .inr (.inl xmx))), (afs, .inl (cJ, 3, .inr (.inl xsd))), (aft, .inl (cJ, 4, .inr (.inl xpt))), (afq, .inr (1, [.long xfa, .long xfb]))] [(af, .inr (0, [.ref au, .ref afp, .ref afm, .ref afs, .ref aft, .ref afq, .int ((f_X0_solve xpr xmx xsd xpt q1).1), .int ((f_X0_solve xpr xmx xsd xpt q1).2.1), .long ((f_X0_solve xpr xmx xsd xpt q1).2.2.1)])), (afp, .inl (cJ, 25, .inr (.inl xpr))), (afm, .inl (cJ, 9, .inr (.inl ((f_X0_solve xpr xmx xsd xpt q1).2.2.2.1)))), (afs, .inl (cJ, 3, .inr (.inl ((f_X0_solve xpr xmx xsd xpt q1).2.2.2.2.1)))), (aft, .inl (cJ, 4, .inr (.inl ((f_X0_solve xpr xmx xsd xpt q1).2.2.2.2.2.1)))), (afq, .inr (1, [.long ((f_X0_solve xpr xmx xsd xpt q1).2.2.2.2.2.2.1), .long ((f_X0_solve xpr xmx xsd xpt q1).2.2.2.2.2.2.2)]))] := by
  generalize hr : f_X0_solve xpr xmx xsd xpt q1 = r
  refine fr_entryV (by decide) rfl ?_
  intro p e s m args below meth c A Q H locs hQ C hret hlk w ls hl
  have hx := C.1
  have hb := C.2.1
  have hl : lv_has ls 2 [(0, .ref af), (1, .int q1)] := hl
  have hr : ((fun (z14_1 : (Nat → Int64) × (Nat → Int64)) => ((fun (z41_2 : Int64 × Int64) => (q1, (f_X0_firstOf q1), (f_X0_determinant z14_1.1), z14_1.1, z14_1.2, (f_X0_solveParts (f_X0_firstOf q1) (f_X0_determinant z14_1.1) z14_1.1 z14_1.2 xpt), z41_2.1, z41_2.2)) (f_X1_put (f_X0_misfitAbove (f_X0_firstOf q1) (f_X0_determinant z14_1.1) xpr z14_1.2 (f_X0_solveParts (f_X0_firstOf q1) (f_X0_determinant z14_1.1) z14_1.1 z14_1.2 xpt)) (f_X0_determinant z14_1.1)))) (f_X0_writeEquations q1 (f_X0_firstOf q1) xpr xmx xsd)) = r := hr
  refine lv_aload_n hx hb dX0_solve_0 rfl (lv_at hl 0 rfl) ?_
  refine lv_iload_n hx hb dX0_solve_1 rfl (lv_at hl 1 rfl) ?_
  refine fr_put C w fp_X0_41 0 rfl rfl rfl rfl (ws' := [(af, .inr (0, [.ref au, .ref afp, .ref afm, .ref afs, .ref aft, .ref afq, .int q1, .int xba, .long xbe])), (afp, .inl (cJ, 25, .inr (.inl xpr))), (afm, .inl (cJ, 9, .inr (.inl xmx))), (afs, .inl (cJ, 3, .inr (.inl xsd))), (aft, .inl (cJ, 4, .inr (.inl xpt))), (afq, .inr (1, [.long xfa, .long xfb]))]) rfl dX0_solve_2 (fun H locs w => ?_)
  refine lv_aload_n hx hb dX0_solve_5 rfl (lv_at hl 0 rfl) ?_
  refine lv_iload_n hx hb dX0_solve_6 rfl (lv_at hl 1 rfl) ?_
  refine fr_callIS (As := [.int q1]) (rest := [.ref af]) C w kf_X0_firstOf mw_18_10 (c_X0_firstOf l D cI cJ q1) ⟨Nat.le_of_ble_eq_true rfl, Nat.le_of_ble_eq_true rfl⟩ ⟨Nat.le_refl 0, Nat.le_refl 0⟩ [] rfl rfl rfl (ws' := [(af, .inr (0, [.ref au, .ref afp, .ref afm, .ref afs, .ref aft, .ref afq, .int q1, .int xba, .long xbe])), (afp, .inl (cJ, 25, .inr (.inl xpr))), (afm, .inl (cJ, 9, .inr (.inl xmx))), (afs, .inl (cJ, 3, .inr (.inl xsd))), (aft, .inl (cJ, 4, .inr (.inl xpt))), (afq, .inr (1, [.long xfa, .long xfb]))]) rfl rfl hl.1 rfl (Nat.le_of_ble_eq_true rfl) dX0_solve_7 (fun H locs w => ?_)
  refine fr_put C w fp_X0_49 0 rfl rfl rfl rfl (ws' := [(af, .inr (0, [.ref au, .ref afp, .ref afm, .ref afs, .ref aft, .ref afq, .int q1, .int (f_X0_firstOf q1), .long xbe])), (afp, .inl (cJ, 25, .inr (.inl xpr))), (afm, .inl (cJ, 9, .inr (.inl xmx))), (afs, .inl (cJ, 3, .inr (.inl xsd))), (aft, .inl (cJ, 4, .inr (.inl xpt))), (afq, .inr (1, [.long xfa, .long xfb]))]) rfl dX0_solve_10 (fun H locs w => ?_)
  refine lv_aload_n hx hb dX0_solve_13 rfl (lv_at hl 0 rfl) ?_
  obtain ⟨z14_1, hz14_1⟩ : ∃ y, (f_X0_writeEquations q1 (f_X0_firstOf q1) xpr xmx xsd) = y := ⟨_, rfl⟩
  have hcz14_1 := c_X0_writeEquations l D cI cJ af au afp afm afs aft afq q1 (f_X0_firstOf q1) xbe xpr xmx xsd xpt xfa xfb
  rw [hz14_1] at hcz14_1
  have hr : ((fun (z41_2 : Int64 × Int64) => (q1, (f_X0_firstOf q1), (f_X0_determinant z14_1.1), z14_1.1, z14_1.2, (f_X0_solveParts (f_X0_firstOf q1) (f_X0_determinant z14_1.1) z14_1.1 z14_1.2 xpt), z41_2.1, z41_2.2)) (f_X1_put (f_X0_misfitAbove (f_X0_firstOf q1) (f_X0_determinant z14_1.1) xpr z14_1.2 (f_X0_solveParts (f_X0_firstOf q1) (f_X0_determinant z14_1.1) z14_1.1 z14_1.2 xpt)) (f_X0_determinant z14_1.1))) = r := by subst hz14_1; exact hr
  refine fr_callVV (As := []) (rest := []) C w kf_X0_writeEquations mw_18_13 (hcz14_1) ⟨Nat.le_of_ble_eq_true rfl, Nat.le_of_ble_eq_true rfl⟩ ⟨Nat.le_refl 0, Nat.le_refl 0⟩ [0, 1, 2, 3, 4, 5] rfl rfl rfl (ws' := [(af, .inr (0, [.ref au, .ref afp, .ref afm, .ref afs, .ref aft, .ref afq, .int q1, .int (f_X0_firstOf q1), .long xbe])), (afp, .inl (cJ, 25, .inr (.inl xpr))), (afm, .inl (cJ, 9, .inr (.inl z14_1.1))), (afs, .inl (cJ, 3, .inr (.inl z14_1.2))), (aft, .inl (cJ, 4, .inr (.inl xpt))), (afq, .inr (1, [.long xfa, .long xfb]))]) rfl rfl rfl rfl hl.1 rfl (Nat.le_of_ble_eq_true rfl) dX0_solve_14 (fun H locs w => ?_)
  refine lv_aload_n hx hb dX0_solve_17 rfl (lv_at hl 0 rfl) ?_
  refine lv_aload_n hx hb dX0_solve_18 rfl (lv_at hl 0 rfl) ?_
  refine fr_callLV (As := []) (rest := [.ref af]) C w kf_X0_determinant mw_19_5 (c_X0_determinant l D cI cJ af au afp afm afs aft afq q1 (f_X0_firstOf q1) xbe xpr z14_1.1 z14_1.2 xpt xfa xfb) ⟨Nat.le_of_ble_eq_true rfl, Nat.le_of_ble_eq_true rfl⟩ ⟨Nat.le_refl 0, Nat.le_refl 0⟩ [0, 1, 2, 3, 4, 5] rfl rfl rfl (ws' := [(af, .inr (0, [.ref au, .ref afp, .ref afm, .ref afs, .ref aft, .ref afq, .int q1, .int (f_X0_firstOf q1), .long xbe])), (afp, .inl (cJ, 25, .inr (.inl xpr))), (afm, .inl (cJ, 9, .inr (.inl z14_1.1))), (afs, .inl (cJ, 3, .inr (.inl z14_1.2))), (aft, .inl (cJ, 4, .inr (.inl xpt))), (afq, .inr (1, [.long xfa, .long xfb]))]) rfl rfl rfl rfl hl.1 rfl (Nat.le_of_ble_eq_true rfl) dX0_solve_19 (fun H locs w => ?_)
  refine fr_put C w fp_X0_59 0 rfl rfl rfl rfl (ws' := [(af, .inr (0, [.ref au, .ref afp, .ref afm, .ref afs, .ref aft, .ref afq, .int q1, .int (f_X0_firstOf q1), .long (f_X0_determinant z14_1.1)])), (afp, .inl (cJ, 25, .inr (.inl xpr))), (afm, .inl (cJ, 9, .inr (.inl z14_1.1))), (afs, .inl (cJ, 3, .inr (.inl z14_1.2))), (aft, .inl (cJ, 4, .inr (.inl xpt))), (afq, .inr (1, [.long xfa, .long xfb]))]) rfl dX0_solve_22 (fun H locs w => ?_)
  refine lv_aload_n hx hb dX0_solve_25 rfl (lv_at hl 0 rfl) ?_
  refine fr_callVV (As := []) (rest := []) C w kf_X0_solveParts mw_19_17 (c_X0_solveParts l D cI cJ af au afp afm afs aft afq q1 (f_X0_firstOf q1) (f_X0_determinant z14_1.1) xpr z14_1.1 z14_1.2 xpt xfa xfb) ⟨Nat.le_of_ble_eq_true rfl, Nat.le_of_ble_eq_true rfl⟩ ⟨Nat.le_refl 0, Nat.le_refl 0⟩ [0, 1, 2, 3, 4, 5] rfl rfl rfl (ws' := [(af, .inr (0, [.ref au, .ref afp, .ref afm, .ref afs, .ref aft, .ref afq, .int q1, .int (f_X0_firstOf q1), .long (f_X0_determinant z14_1.1)])), (afp, .inl (cJ, 25, .inr (.inl xpr))), (afm, .inl (cJ, 9, .inr (.inl z14_1.1))), (afs, .inl (cJ, 3, .inr (.inl z14_1.2))), (aft, .inl (cJ, 4, .inr (.inl (f_X0_solveParts (f_X0_firstOf q1) (f_X0_determinant z14_1.1) z14_1.1 z14_1.2 xpt)))), (afq, .inr (1, [.long xfa, .long xfb]))]) rfl rfl rfl rfl hl.1 rfl (Nat.le_of_ble_eq_true rfl) dX0_solve_26 (fun H locs w => ?_)
  refine lv_aload_n hx hb dX0_solve_29 rfl (lv_at hl 0 rfl) ?_
  refine fr_get C w fg_X0_31 0 rfl rfl dX0_solve_30 ?_
  refine lv_aload_n hx hb dX0_solve_33 rfl (lv_at hl 0 rfl) ?_
  refine fr_callLV (As := []) (rest := [.ref afq]) C w kf_X0_misfitAbove mw_20_1 (c_X0_misfitAbove l D cI cJ af au afp afm afs aft afq q1 (f_X0_firstOf q1) (f_X0_determinant z14_1.1) xpr z14_1.1 z14_1.2 (f_X0_solveParts (f_X0_firstOf q1) (f_X0_determinant z14_1.1) z14_1.1 z14_1.2 xpt) xfa xfb) ⟨Nat.le_of_ble_eq_true rfl, Nat.le_of_ble_eq_true rfl⟩ ⟨Nat.le_refl 0, Nat.le_refl 0⟩ [0, 1, 2, 3, 4, 5] rfl rfl rfl (ws' := [(af, .inr (0, [.ref au, .ref afp, .ref afm, .ref afs, .ref aft, .ref afq, .int q1, .int (f_X0_firstOf q1), .long (f_X0_determinant z14_1.1)])), (afp, .inl (cJ, 25, .inr (.inl xpr))), (afm, .inl (cJ, 9, .inr (.inl z14_1.1))), (afs, .inl (cJ, 3, .inr (.inl z14_1.2))), (aft, .inl (cJ, 4, .inr (.inl (f_X0_solveParts (f_X0_firstOf q1) (f_X0_determinant z14_1.1) z14_1.1 z14_1.2 xpt)))), (afq, .inr (1, [.long xfa, .long xfb]))]) rfl rfl rfl rfl hl.1 rfl (Nat.le_of_ble_eq_true rfl) dX0_solve_34 (fun H locs w => ?_)
  refine lv_aload_n hx hb dX0_solve_37 rfl (lv_at hl 0 rfl) ?_
  refine fr_get C w fg_X0_59 0 rfl rfl dX0_solve_38 ?_
  obtain ⟨z41_2, hz41_2⟩ : ∃ y, (f_X1_put (f_X0_misfitAbove (f_X0_firstOf q1) (f_X0_determinant z14_1.1) xpr z14_1.2 (f_X0_solveParts (f_X0_firstOf q1) (f_X0_determinant z14_1.1) z14_1.1 z14_1.2 xpt)) (f_X0_determinant z14_1.1)) = y := ⟨_, rfl⟩
  have hcz41_2 := c_X1_put l D cI cJ afq xfa xfb (f_X0_misfitAbove (f_X0_firstOf q1) (f_X0_determinant z14_1.1) xpr z14_1.2 (f_X0_solveParts (f_X0_firstOf q1) (f_X0_determinant z14_1.1) z14_1.1 z14_1.2 xpt)) (f_X0_determinant z14_1.1)
  rw [hz41_2] at hcz41_2
  have hr : (q1, (f_X0_firstOf q1), (f_X0_determinant z14_1.1), z14_1.1, z14_1.2, (f_X0_solveParts (f_X0_firstOf q1) (f_X0_determinant z14_1.1) z14_1.1 z14_1.2 xpt), z41_2.1, z41_2.2) = r := by subst hz41_2; exact hr
  refine fr_callVV (As := [.long (f_X0_misfitAbove (f_X0_firstOf q1) (f_X0_determinant z14_1.1) xpr z14_1.2 (f_X0_solveParts (f_X0_firstOf q1) (f_X0_determinant z14_1.1) z14_1.1 z14_1.2 xpt)), .long (f_X0_determinant z14_1.1)]) (rest := []) C w kf_X1_put mw_20_9 (hcz41_2) ⟨Nat.le_of_ble_eq_true rfl, Nat.le_of_ble_eq_true rfl⟩ ⟨Nat.le_refl 0, Nat.le_refl 0⟩ [5] rfl rfl rfl (ws' := [(af, .inr (0, [.ref au, .ref afp, .ref afm, .ref afs, .ref aft, .ref afq, .int q1, .int (f_X0_firstOf q1), .long (f_X0_determinant z14_1.1)])), (afp, .inl (cJ, 25, .inr (.inl xpr))), (afm, .inl (cJ, 9, .inr (.inl z14_1.1))), (afs, .inl (cJ, 3, .inr (.inl z14_1.2))), (aft, .inl (cJ, 4, .inr (.inl (f_X0_solveParts (f_X0_firstOf q1) (f_X0_determinant z14_1.1) z14_1.1 z14_1.2 xpt)))), (afq, .inr (1, [.long z41_2.1, .long z41_2.2]))]) rfl rfl rfl rfl hl.1 rfl (Nat.le_of_ble_eq_true rfl) dX0_solve_41 (fun H locs w => ?_)
  subst hr hQ
  exact fr_vret C hret hlk w rfl dX0_solve_44
end
section
theorem zz_look : True := trivial
end
